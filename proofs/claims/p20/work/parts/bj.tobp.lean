-- part bj
section
noncomputable section
/-! names get their numbers -/
def cntN (w : eW) (k : Int) : Nat → Int
  | 0 => 0
  | m + 1 => cntN w k m + (if w 341 (m : Int) = k then 1 else 0)
/-- how many of the first m names are of the kind k -/
def cntK (w : eW) (k m : Int) : Int := cntN w k m.toNat
theorem cntK_zero (w : eW) (k : Int) : cntK w k 0 = 0 := rfl
theorem cntK_next (w : eW) (k : Int) {m : Int} (hm : 0 ≤ m) : cntK w k (m + 1) = cntK w k m + (if w 341 m = k then 1 else 0) := by
  unfold cntK
  rw [show (m + 1).toNat = m.toNat + 1 by omega]
  show cntN w k m.toNat + (if w 341 ((m.toNat : Nat) : Int) = k then 1 else 0) = _
  rw [show ((m.toNat : Nat) : Int) = m by omega]
theorem cntK_yes {w : eW} {k m : Int} (hm : 0 ≤ m) (h : w 341 m = k) : cntK w k (m + 1) = cntK w k m + 1 := by rw [cntK_next w k hm, if_pos h]
theorem cntK_no {w : eW} {k m : Int} (hm : 0 ≤ m) (h : w 341 m ≠ k) : cntK w k (m + 1) = cntK w k m := by rw [cntK_next w k hm, if_neg h]; omega
theorem cntN_nn (w : eW) (k : Int) : ∀ m, 0 ≤ cntN w k m
  | 0 => Int.le_refl 0
  | m + 1 => by
    have := cntN_nn w k m
    show 0 ≤ cntN w k m + (if w 341 (m : Int) = k then 1 else 0)
    by_cases c : w 341 (m : Int) = k
    · rw [if_pos c]; omega
    · rw [if_neg c]; omega
theorem cntK_nn (w : eW) (k m : Int) : 0 ≤ cntK w k m := cntN_nn w k _
theorem cntN_le (w : eW) (k : Int) (m : Nat) : ∀ j, cntN w k m ≤ cntN w k (m + j)
  | 0 => Int.le_refl _
  | j + 1 => by
    have := cntN_le w k m j
    show cntN w k m ≤ cntN w k (m + j) + (if w 341 ((m + j : Nat) : Int) = k then 1 else 0)
    by_cases c : w 341 ((m + j : Nat) : Int) = k
    · rw [if_pos c]; omega
    · rw [if_neg c]; omega
theorem cntK_le {w : eW} {k m m' : Int} (h0 : 0 ≤ m) (h : m ≤ m') : cntK w k m ≤ cntK w k m' := by
  unfold cntK
  rw [show m'.toNat = m.toNat + (m' - m).toNat by omega]
  exact cntN_le w k _ _
theorem cntK_lt {w : eW} {k m m' : Int} (h0 : 0 ≤ m) (h : m < m') (hk : w 341 m = k) : cntK w k m < cntK w k m' := by
  have h1 := cntK_yes h0 hk
  have h2 := cntK_le (w := w) (k := k) (m := m + 1) (m' := m') (by omega) (by omega)
  omega
theorem cntN_eq {w w' : eW} (e : ∀ m, w' 341 m = w 341 m) (k : Int) : ∀ m, cntN w' k m = cntN w k m
  | 0 => rfl
  | m + 1 => by
    show cntN w' k m + (if w' 341 (m : Int) = k then 1 else 0) = cntN w k m + (if w 341 (m : Int) = k then 1 else 0)
    rw [cntN_eq e k m, e]
theorem cntK_eq {w w' : eW} (e : ∀ m, w' 341 m = w 341 m) (k m : Int) : cntK w' k m = cntK w k m := cntN_eq e k _
def mRsv (c k : Int) : Prop := (c = 329 ∧ 40000 ≤ k) ∨ (c = 337 ∧ 128 ≤ k) ∨ ((c = 338 ∨ c = 339) ∧ k = 4) ∨ (c = 275 ∧ (k = 88 ∨ k = 89))
/-- the names up to i are known by their numbers -/
def RS (w v : eW) (n mm i : Int) : Prop := (v 339 4 = cntK w 0 i ∧ cntK w 0 i ≤ 32) ∧ (v 338 4 = cntK w 1 i ∧ cntK w 1 i ≤ 32) ∧ (∀ m, 0 ≤ m → m < i → w 341 m ≠ 4) ∧
  (∀ m, 0 ≤ m → m < i → w 341 m = 2 ∨ w 341 m = 3 → 0 ≤ v 329 (w 344 m + 40000) ∧ v 329 (w 344 m + 40000) < cntK w (w 341 m - 2) mm) ∧
  (∀ q, 0 ≤ q → q < cntK w 1 i → ∃ m, 0 ≤ m ∧ m < i ∧ w 341 m = 1 ∧ v 337 (q + 128) = w 344 m) ∧
  (∀ p, 0 ≤ p → p < n → ¬ (w 328 (p + 40000) = 2 ∨ w 328 (p + 40000) = 31 ∨ w 328 (p + 40000) = 38 ∨ w 328 (p + 40000) = 39 ∨ w 328 (p + 40000) = 44) → v 329 (p + 40000) = w 329 (p + 40000))
theorem RS.zero {w : eW} (n mm : Int) (h1 : w 339 4 = 0) (h2 : w 338 4 = 0) : RS w w n mm 0 := by
  refine ⟨⟨by rw [cntK_zero]; exact h1, by rw [cntK_zero]; decide⟩, ⟨by rw [cntK_zero]; exact h2, by rw [cntK_zero]; decide⟩, fun m g1 g2 => by omega, fun m g1 g2 => by omega, fun q g1 g2 => ?_, fun p _ _ _ => rfl⟩
  rw [cntK_zero] at g2
  omega
/-- a variable is told -/
theorem RS.var {w v v' : eW} {n mm i : Int} (h : RS w v n mm i) (hi : 0 ≤ i) (hk : w 341 i = 0) (hv : v' 339 4 = v 339 4 + 1) (h32 : v 339 4 ≠ 32) (ho : ∀ c k, c = 329 ∨ c = 337 ∨ c = 338 → v' c k = v c k) : RS w v' n mm (i + 1) := by
  obtain ⟨q1, q2, q3, q4, q5, q6⟩ := h
  unfold RS
  rw [cntK_yes hi hk, cntK_no (k := 1) hi (by omega), ho 338 4 (by omega)]
  refine ⟨by omega, q2, fun m g1 g2 => ?_, fun m g1 g2 g3 => ?_, fun q g1 g2 => ?_, fun p g1 g2 g3 => by rw [ho 329 _ (by omega)]; exact q6 p g1 g2 g3⟩
  · by_cases c : m = i
    · rw [c]; omega
    · exact q3 m g1 (by omega)
  · have c : m ≠ i := fun c => by rw [c] at g3; omega
    rw [ho 329 _ (by omega)]
    exact q4 m g1 (by omega) g3
  · obtain ⟨m, m1, m2, m3, m4⟩ := q5 q g1 g2
    exact ⟨m, m1, by omega, m3, by rw [ho 337 _ (by omega)]; exact m4⟩
/-- a routine is told -/
theorem RS.rou {w v v' : eW} {n mm i : Int} (h : RS w v n mm i) (hi : 0 ≤ i) (hk : w 341 i = 1) (hv : v' 338 4 = v 338 4 + 1) (h7 : v' 337 (v 338 4 + 128) = w 344 i) (h32 : v 338 4 ≠ 32) (ho : ∀ c k, c = 329 ∨ (c = 337 ∧ k ≠ v 338 4 + 128) ∨ c = 339 → v' c k = v c k) : RS w v' n mm (i + 1) := by
  obtain ⟨q1, q2, q3, q4, q5, q6⟩ := h
  have hn := cntK_nn w 1 i
  unfold RS
  rw [cntK_yes hi hk, cntK_no (k := 0) hi (by omega), ho 339 4 (by omega)]
  refine ⟨q1, by omega, fun m g1 g2 => ?_, fun m g1 g2 g3 => ?_, fun q g1 g2 => ?_, fun p g1 g2 g3 => by rw [ho 329 _ (by omega)]; exact q6 p g1 g2 g3⟩
  · by_cases c : m = i
    · rw [c]; omega
    · exact q3 m g1 (by omega)
  · have c : m ≠ i := fun c => by rw [c] at g3; omega
    rw [ho 329 _ (by omega)]
    exact q4 m g1 (by omega) g3
  · by_cases c : q = v 338 4
    · exact ⟨i, hi, by omega, hk, by rw [c]; exact h7⟩
    · obtain ⟨m, m1, m2, m3, m4⟩ := q5 q g1 (by omega)
      exact ⟨m, m1, by omega, m3, by rw [ho 337 _ (by omega)]; exact m4⟩
/-- a name that is used -/
theorem RS.use {w v v' : eW} {n mm i z : Int} (h : RS w v n mm i) (hi : 0 ≤ i ∧ i < mm) (hk : w 341 i = 2 ∨ w 341 i = 3) (hK : nK w n mm (fun _ => False)) (hw : e_up v 329 (w 344 i + 40000) z = v') (hz : 0 ≤ z ∧ z < cntK w (w 341 i - 2) mm) : RS w v' n mm (i + 1) := by
  obtain ⟨q1, q2, q3, q4, q5, q6⟩ := h
  have ho : ∀ c k, c ≠ 329 ∨ k ≠ w 344 i + 40000 → v' c k = v c k := fun c k g => by rw [← hw]; exact e_up_ne _ _ g
  have hv : v' 329 (w 344 i + 40000) = z := by rw [← hw]; exact e_up_eq _ _ _ _
  have hki := (hK i hi.1 hi.2 hk).resolve_left (fun y => y)
  unfold RS
  rw [cntK_no (k := 0) hi.1 (by omega), cntK_no (k := 1) hi.1 (by omega), ho 339 4 (by omega), ho 338 4 (by omega)]
  refine ⟨q1, q2, fun m g1 g2 => ?_, fun m g1 g2 g3 => ?_, fun q g1 g2 => ?_, fun p g1 g2 g3 => ?_⟩
  · by_cases c : m = i
    · rw [c]; omega
    · exact q3 m g1 (by omega)
  · by_cases c : w 344 m = w 344 i
    · rw [c, hv]
      have hkm := (hK m g1 (by omega) g3).resolve_left (fun y => y)
      obtain ⟨a1, a2, a3⟩ := hki
      obtain ⟨b1, b2, b3⟩ := hkm
      rw [c] at b2 b3
      have e : w 341 m = w 341 i := by
        rcases hk with hk | hk <;> rcases g3 with g3 | g3
        · omega
        · have := a2 hk; have := b3 g3; omega
        · have := a3 hk; have := b2 g3; omega
        · omega
      rw [e]
      exact hz
    · have c2 : m ≠ i := fun c2 => c (by rw [c2])
      rw [ho 329 _ (Or.inr (by omega))]
      exact q4 m g1 (by omega) g3
  · obtain ⟨m, m1, m2, m3, m4⟩ := q5 q g1 g2
    exact ⟨m, m1, by omega, m3, by rw [ho 337 _ (by omega)]; exact m4⟩
  · rw [ho 329 _ (Or.inr (fun c => g3 (by
      have e : p = w 344 i := by omega
      rw [e]
      rcases hk with hk | hk
      · have := hki.2.1 hk; omega
      · have := hki.2.2 hk; omega)))]
    exact q6 p g1 g2 g3
/-- all names are known: what the program needs -/
theorem RS.all {w v : eW} {N n mm : Int} (h : RS w v n mm mm) (hN : NM w N n mm) {p : Int} (h1 : 0 ≤ p) (h2 : p < n) : (w 328 (p + 40000) = 2 ∨ w 328 (p + 40000) = 31 → 0 ≤ v 329 (p + 40000) ∧ v 329 (p + 40000) ≤ 31) ∧ (w 328 (p + 40000) = 38 ∨ w 328 (p + 40000) = 39 ∨ w 328 (p + 40000) = 44 → 0 ≤ v 329 (p + 40000) ∧ v 329 (p + 40000) < v 338 4) := by
  obtain ⟨q1, q2, q3, q4, q5, q6⟩ := h
  obtain ⟨r1, r2, -⟩ := hN.2 p h1 h2
  refine ⟨fun g => ?_, fun g => ?_⟩
  · obtain ⟨m, m1, m2, m3, m4⟩ := r1 g
    have := q4 m m1 m2 (Or.inl m3)
    rw [m4, m3, show (2 : Int) - 2 = 0 by decide] at this
    omega
  · obtain ⟨m, m1, m2, m3, m4⟩ := r2 g
    have := q4 m m1 m2 (Or.inr m3)
    rw [m4, m3, show (3 : Int) - 2 = 1 by decide] at this
    omega
end
end
-- part bk
section
noncomputable section
theorem c_354 {d : Nat} {w : eW} (hT : e_Has mTy w) (hH : e_Has hTy w) {N m n : Int} (hN : N ≤ 4000) (hm : 0 ≤ m ∧ m ≤ 4099) (hn : 0 ≤ n ∧ n ≤ 4099) (h1 : 0 ≤ w 342 m ∧ 0 ≤ w 343 m ∧ w 342 m + w 343 m ≤ N) (h2 : 0 ≤ w 342 n ∧ 0 ≤ w 343 n ∧ w 342 n + w 343 n ≤ N) : e_Ok 20 elay ecode eI d 354 (0, [(0, (1, 275)), (1, (0, m)), (2, (0, n))], [], w) (fun r w' => ∃ z : Int, r = [(0, z)] ∧ w = w' ∧ 0 ≤ z ∧ z ≤ 1) := by
  refine e_Ok.run (t' := (1, [(0, (1, 275)), (1, (0, m)), (2, (0, n))], [(1, 275)], w)) 1 rfl ?_
  refine e_Ok.getr (z := 343) rfl (el_o rfl) rfl rfl (e_Has.eq hT rfl) (by omega) ?_
  refine e_Ok.run (t' := (5, [(0, (1, 275)), (1, (0, m)), (2, (0, n))], [(0, m), (1, 343)], w)) 1 rfl ?_
  refine e_Ok.ald (z := w 343 m) rfl (el_o rfl) rfl (by omega) rfl (by omega) ?_
  refine e_Ok.run (t' := (7, [(0, (1, 275)), (1, (0, m)), (2, (0, n))], [(1, 275), (0, w 343 m)], w)) 1 rfl ?_
  refine e_Ok.getr (z := 343) rfl (el_o rfl) rfl rfl (e_Has.eq hT rfl) (by omega) ?_
  refine e_Ok.run (t' := (11, [(0, (1, 275)), (1, (0, m)), (2, (0, n))], [(0, n), (1, 343), (0, w 343 m)], w)) 1 rfl ?_
  refine e_Ok.ald (z := w 343 n) rfl (el_o rfl) rfl (by omega) rfl (by omega) ?_
  refine e_Ok.if2 rfl (fun h1 => ?_) (fun h1 => ?_)
  · replace h1 : (w 343 m : Int) ≠ w 343 n := h1
    refine e_Ok.run (t' := (24, [(4, (0, 0)), (3, (0, 0)), (0, (1, 275)), (1, (0, m)), (2, (0, n))], [], w)) 4 rfl ?_
    have hL2 : ∀ (nn : Nat) (y3 : Int) (y4 : Int), ((0 ≤ y3 ∧ y3 ≤ 1)) ∧ ((0 ≤ y4 ∧ y4 ≤ w 343 m)) ∧ (y3 = 1 → w 343 m = w 343 n) → 4000 - y4 < nn → e_Ok 20 elay ecode eI d 354 (24, [(0, (1, 275)), (1, (0, m)), (2, (0, n)), (3, (0, y3)), (4, (0, y4))], [], w) (fun r w' => ∃ z : Int, r = [(0, z)] ∧ w = w' ∧ 0 ≤ z ∧ z ≤ 1) := by
      intro nn
      induction nn with
      | zero => intro y3 y4 hj hm; obtain ⟨j4, j5, j6⟩ := hj; exfalso; omega
      | succ nn ih3 =>
        intro y3 y4 hj hm
        obtain ⟨j4, j5, j6⟩ := hj
        refine e_Ok.run (t' := (27, [(0, (1, 275)), (1, (0, m)), (2, (0, n)), (3, (0, y3)), (4, (0, y4))], [(1, 275), (0, y4)], w)) 2 rfl ?_
        refine e_Ok.getr (z := 343) rfl (el_o rfl) rfl rfl (e_Has.eq hT rfl) (by omega) ?_
        refine e_Ok.run (t' := (31, [(0, (1, 275)), (1, (0, m)), (2, (0, n)), (3, (0, y3)), (4, (0, y4))], [(0, m), (1, 343), (0, y4)], w)) 1 rfl ?_
        refine e_Ok.ald (z := w 343 m) rfl (el_o rfl) rfl (by omega) rfl (by omega) ?_
        refine e_Ok.if2 rfl (fun h7 => ?_) (fun h7 => ?_)
        · replace h7 : (y4 : Int) ≥ w 343 m := h7
          refine e_Ok.run (t' := (83, [(0, (1, 275)), (1, (0, m)), (2, (0, n)), (3, (0, y3)), (4, (0, y4))], [(0, y3)], w)) 1 rfl ?_
          refine e_Ok.retb rfl (by omega) ?_
          exact ⟨_, rfl, rfl, by omega, by omega⟩
        · replace h7 : (y4 : Int) < w 343 m := by have q : ¬ ((y4 : Int) ≥ w 343 m) := h7; omega
          refine e_Ok.run (t' := (36, [(0, (1, 275)), (1, (0, m)), (2, (0, n)), (3, (0, y3)), (4, (0, y4))], [(0, y3)], w)) 1 rfl ?_
          refine e_Ok.if1 rfl (fun h8 => ?_) (fun h8 => ?_)
          · replace h8 : (y3 : Int) = 0 := h8
            refine e_Ok.run (t' := (83, [(0, (1, 275)), (1, (0, m)), (2, (0, n)), (3, (0, y3)), (4, (0, y4))], [(0, y3)], w)) 1 rfl ?_
            refine e_Ok.retb rfl (by omega) ?_
            exact ⟨_, rfl, rfl, by omega, by omega⟩
          · replace h8 : (y3 : Int) ≠ 0 := by have q : ¬ ((y3 : Int) = 0) := h8; omega
            refine e_Ok.run (t' := (40, [(0, (1, 275)), (1, (0, m)), (2, (0, n)), (3, (0, y3)), (4, (0, y4))], [(1, 275)], w)) 1 rfl ?_
            refine e_Ok.getr (z := 281) rfl (el_o rfl) rfl rfl (e_Has.eq hT rfl) (by omega) ?_
            refine e_Ok.run (t' := (44, [(0, (1, 275)), (1, (0, m)), (2, (0, n)), (3, (0, y3)), (4, (0, y4))], [(1, 275), (1, 281)], w)) 1 rfl ?_
            refine e_Ok.getr (z := 342) rfl (el_o rfl) rfl rfl (e_Has.eq hT rfl) (by omega) ?_
            refine e_Ok.run (t' := (48, [(0, (1, 275)), (1, (0, m)), (2, (0, n)), (3, (0, y3)), (4, (0, y4))], [(0, m), (1, 342), (1, 281)], w)) 1 rfl ?_
            refine e_Ok.ald (z := w 342 m) rfl (el_o rfl) rfl (by omega) rfl (by omega) ?_
            refine e_Ok.run (t' := (51, [(0, (1, 275)), (1, (0, m)), (2, (0, n)), (3, (0, y3)), (4, (0, y4))], [(0, y4), (0, w 342 m), (1, 281)], w)) 1 rfl ?_
            refine e_Ok.add (z := w 342 m + y4) rfl (by omega) (by omega) ?_
            have h9 := (e_Has.get hH (c := 281) (k := w 342 m + y4) (lo := (-128)) (hi := 127) rfl (by decide))
            refine e_Ok.ald (z := w 281 (w 342 m + y4)) rfl (el_o rfl) rfl (by omega) rfl (by omega) ?_
            refine e_Ok.run (t' := (54, [(0, (1, 275)), (1, (0, m)), (2, (0, n)), (3, (0, y3)), (4, (0, y4))], [(1, 275), (0, w 281 (w 342 m + y4))], w)) 1 rfl ?_
            refine e_Ok.getr (z := 281) rfl (el_o rfl) rfl rfl (e_Has.eq hT rfl) (by omega) ?_
            refine e_Ok.run (t' := (58, [(0, (1, 275)), (1, (0, m)), (2, (0, n)), (3, (0, y3)), (4, (0, y4))], [(1, 275), (1, 281), (0, w 281 (w 342 m + y4))], w)) 1 rfl ?_
            refine e_Ok.getr (z := 342) rfl (el_o rfl) rfl rfl (e_Has.eq hT rfl) (by omega) ?_
            refine e_Ok.run (t' := (62, [(0, (1, 275)), (1, (0, m)), (2, (0, n)), (3, (0, y3)), (4, (0, y4))], [(0, n), (1, 342), (1, 281), (0, w 281 (w 342 m + y4))], w)) 1 rfl ?_
            refine e_Ok.ald (z := w 342 n) rfl (el_o rfl) rfl (by omega) rfl (by omega) ?_
            refine e_Ok.run (t' := (65, [(0, (1, 275)), (1, (0, m)), (2, (0, n)), (3, (0, y3)), (4, (0, y4))], [(0, y4), (0, w 342 n), (1, 281), (0, w 281 (w 342 m + y4))], w)) 1 rfl ?_
            refine e_Ok.add (z := w 342 n + y4) rfl (by omega) (by omega) ?_
            have h10 := (e_Has.get hH (c := 281) (k := w 342 n + y4) (lo := (-128)) (hi := 127) rfl (by decide))
            refine e_Ok.ald (z := w 281 (w 342 n + y4)) rfl (el_o rfl) rfl (by omega) rfl (by omega) ?_
            refine e_Ok.if2 rfl (fun h11 => ?_) (fun h11 => ?_)
            · replace h11 : (w 281 (w 342 m + y4) : Int) ≠ w 281 (w 342 n + y4) := h11
              refine e_Ok.run (t' := (76, [(3, (0, 0)), (0, (1, 275)), (1, (0, m)), (2, (0, n)), (4, (0, y4))], [], w)) 2 rfl ?_
              refine e_Ok.inc (z := y4 + 1) rfl rfl (by omega) (by omega) ?_
              show e_Ok 20 elay ecode eI d 354 (79, [(4, (0, y4 + 1)), (3, (0, 0)), (0, (1, 275)), (1, (0, m)), (2, (0, n))], [], w) _
              refine e_Ok.run (t' := (24, [(4, (0, y4 + 1)), (3, (0, 0)), (0, (1, 275)), (1, (0, m)), (2, (0, n))], [], w)) 1 rfl ?_
              refine e_Ok.sub eAlk (e_sub_of rfl ?_) (ih3 0 (y4 + 1) ⟨by omega, by omega, (fun z => by omega)⟩ (by omega))
              exact ⟨rfl, rfl, rfl, rfl, rfl, trivial⟩
            · replace h11 : (w 281 (w 342 m + y4) : Int) = w 281 (w 342 n + y4) := by have q : ¬ ((w 281 (w 342 m + y4) : Int) ≠ w 281 (w 342 n + y4)) := h11; omega
              refine e_Ok.run (t' := (76, [(3, (0, 1)), (0, (1, 275)), (1, (0, m)), (2, (0, n)), (4, (0, y4))], [], w)) 3 rfl ?_
              refine e_Ok.inc (z := y4 + 1) rfl rfl (by omega) (by omega) ?_
              show e_Ok 20 elay ecode eI d 354 (79, [(4, (0, y4 + 1)), (3, (0, 1)), (0, (1, 275)), (1, (0, m)), (2, (0, n))], [], w) _
              refine e_Ok.run (t' := (24, [(4, (0, y4 + 1)), (3, (0, 1)), (0, (1, 275)), (1, (0, m)), (2, (0, n))], [], w)) 1 rfl ?_
              refine e_Ok.sub eAlk (e_sub_of rfl ?_) (ih3 1 (y4 + 1) ⟨by omega, by omega, (fun z => by omega)⟩ (by omega))
              exact ⟨rfl, rfl, rfl, rfl, rfl, trivial⟩
    refine e_Ok.sub eAlk (e_sub_of rfl ?_) (hL2 (4001 + 1 : Int).toNat 0 0 ⟨by omega, by omega, (fun z => by omega)⟩ (by omega))
    exact ⟨rfl, rfl, rfl, rfl, rfl, trivial⟩
  · replace h1 : (w 343 m : Int) = w 343 n := by have q : ¬ ((w 343 m : Int) ≠ w 343 n) := h1; omega
    refine e_Ok.run (t' := (24, [(4, (0, 0)), (3, (0, 1)), (0, (1, 275)), (1, (0, m)), (2, (0, n))], [], w)) 5 rfl ?_
    have hL12 : ∀ (nn : Nat) (y3 : Int) (y4 : Int), ((0 ≤ y3 ∧ y3 ≤ 1)) ∧ ((0 ≤ y4 ∧ y4 ≤ w 343 m)) ∧ (y3 = 1 → w 343 m = w 343 n) → 4000 - y4 < nn → e_Ok 20 elay ecode eI d 354 (24, [(0, (1, 275)), (1, (0, m)), (2, (0, n)), (3, (0, y3)), (4, (0, y4))], [], w) (fun r w' => ∃ z : Int, r = [(0, z)] ∧ w = w' ∧ 0 ≤ z ∧ z ≤ 1) := by
      intro nn
      induction nn with
      | zero => intro y3 y4 hj hm; obtain ⟨j14, j15, j16⟩ := hj; exfalso; omega
      | succ nn ih13 =>
        intro y3 y4 hj hm
        obtain ⟨j14, j15, j16⟩ := hj
        refine e_Ok.run (t' := (27, [(0, (1, 275)), (1, (0, m)), (2, (0, n)), (3, (0, y3)), (4, (0, y4))], [(1, 275), (0, y4)], w)) 2 rfl ?_
        refine e_Ok.getr (z := 343) rfl (el_o rfl) rfl rfl (e_Has.eq hT rfl) (by omega) ?_
        refine e_Ok.run (t' := (31, [(0, (1, 275)), (1, (0, m)), (2, (0, n)), (3, (0, y3)), (4, (0, y4))], [(0, m), (1, 343), (0, y4)], w)) 1 rfl ?_
        refine e_Ok.ald (z := w 343 m) rfl (el_o rfl) rfl (by omega) rfl (by omega) ?_
        refine e_Ok.if2 rfl (fun h17 => ?_) (fun h17 => ?_)
        · replace h17 : (y4 : Int) ≥ w 343 m := h17
          refine e_Ok.run (t' := (83, [(0, (1, 275)), (1, (0, m)), (2, (0, n)), (3, (0, y3)), (4, (0, y4))], [(0, y3)], w)) 1 rfl ?_
          refine e_Ok.retb rfl (by omega) ?_
          exact ⟨_, rfl, rfl, by omega, by omega⟩
        · replace h17 : (y4 : Int) < w 343 m := by have q : ¬ ((y4 : Int) ≥ w 343 m) := h17; omega
          refine e_Ok.run (t' := (36, [(0, (1, 275)), (1, (0, m)), (2, (0, n)), (3, (0, y3)), (4, (0, y4))], [(0, y3)], w)) 1 rfl ?_
          refine e_Ok.if1 rfl (fun h18 => ?_) (fun h18 => ?_)
          · replace h18 : (y3 : Int) = 0 := h18
            refine e_Ok.run (t' := (83, [(0, (1, 275)), (1, (0, m)), (2, (0, n)), (3, (0, y3)), (4, (0, y4))], [(0, y3)], w)) 1 rfl ?_
            refine e_Ok.retb rfl (by omega) ?_
            exact ⟨_, rfl, rfl, by omega, by omega⟩
          · replace h18 : (y3 : Int) ≠ 0 := by have q : ¬ ((y3 : Int) = 0) := h18; omega
            refine e_Ok.run (t' := (40, [(0, (1, 275)), (1, (0, m)), (2, (0, n)), (3, (0, y3)), (4, (0, y4))], [(1, 275)], w)) 1 rfl ?_
            refine e_Ok.getr (z := 281) rfl (el_o rfl) rfl rfl (e_Has.eq hT rfl) (by omega) ?_
            refine e_Ok.run (t' := (44, [(0, (1, 275)), (1, (0, m)), (2, (0, n)), (3, (0, y3)), (4, (0, y4))], [(1, 275), (1, 281)], w)) 1 rfl ?_
            refine e_Ok.getr (z := 342) rfl (el_o rfl) rfl rfl (e_Has.eq hT rfl) (by omega) ?_
            refine e_Ok.run (t' := (48, [(0, (1, 275)), (1, (0, m)), (2, (0, n)), (3, (0, y3)), (4, (0, y4))], [(0, m), (1, 342), (1, 281)], w)) 1 rfl ?_
            refine e_Ok.ald (z := w 342 m) rfl (el_o rfl) rfl (by omega) rfl (by omega) ?_
            refine e_Ok.run (t' := (51, [(0, (1, 275)), (1, (0, m)), (2, (0, n)), (3, (0, y3)), (4, (0, y4))], [(0, y4), (0, w 342 m), (1, 281)], w)) 1 rfl ?_
            refine e_Ok.add (z := w 342 m + y4) rfl (by omega) (by omega) ?_
            have h19 := (e_Has.get hH (c := 281) (k := w 342 m + y4) (lo := (-128)) (hi := 127) rfl (by decide))
            refine e_Ok.ald (z := w 281 (w 342 m + y4)) rfl (el_o rfl) rfl (by omega) rfl (by omega) ?_
            refine e_Ok.run (t' := (54, [(0, (1, 275)), (1, (0, m)), (2, (0, n)), (3, (0, y3)), (4, (0, y4))], [(1, 275), (0, w 281 (w 342 m + y4))], w)) 1 rfl ?_
            refine e_Ok.getr (z := 281) rfl (el_o rfl) rfl rfl (e_Has.eq hT rfl) (by omega) ?_
            refine e_Ok.run (t' := (58, [(0, (1, 275)), (1, (0, m)), (2, (0, n)), (3, (0, y3)), (4, (0, y4))], [(1, 275), (1, 281), (0, w 281 (w 342 m + y4))], w)) 1 rfl ?_
            refine e_Ok.getr (z := 342) rfl (el_o rfl) rfl rfl (e_Has.eq hT rfl) (by omega) ?_
            refine e_Ok.run (t' := (62, [(0, (1, 275)), (1, (0, m)), (2, (0, n)), (3, (0, y3)), (4, (0, y4))], [(0, n), (1, 342), (1, 281), (0, w 281 (w 342 m + y4))], w)) 1 rfl ?_
            refine e_Ok.ald (z := w 342 n) rfl (el_o rfl) rfl (by omega) rfl (by omega) ?_
            refine e_Ok.run (t' := (65, [(0, (1, 275)), (1, (0, m)), (2, (0, n)), (3, (0, y3)), (4, (0, y4))], [(0, y4), (0, w 342 n), (1, 281), (0, w 281 (w 342 m + y4))], w)) 1 rfl ?_
            refine e_Ok.add (z := w 342 n + y4) rfl (by omega) (by omega) ?_
            have h20 := (e_Has.get hH (c := 281) (k := w 342 n + y4) (lo := (-128)) (hi := 127) rfl (by decide))
            refine e_Ok.ald (z := w 281 (w 342 n + y4)) rfl (el_o rfl) rfl (by omega) rfl (by omega) ?_
            refine e_Ok.if2 rfl (fun h21 => ?_) (fun h21 => ?_)
            · replace h21 : (w 281 (w 342 m + y4) : Int) ≠ w 281 (w 342 n + y4) := h21
              refine e_Ok.run (t' := (76, [(3, (0, 0)), (0, (1, 275)), (1, (0, m)), (2, (0, n)), (4, (0, y4))], [], w)) 2 rfl ?_
              refine e_Ok.inc (z := y4 + 1) rfl rfl (by omega) (by omega) ?_
              show e_Ok 20 elay ecode eI d 354 (79, [(4, (0, y4 + 1)), (3, (0, 0)), (0, (1, 275)), (1, (0, m)), (2, (0, n))], [], w) _
              refine e_Ok.run (t' := (24, [(4, (0, y4 + 1)), (3, (0, 0)), (0, (1, 275)), (1, (0, m)), (2, (0, n))], [], w)) 1 rfl ?_
              refine e_Ok.sub eAlk (e_sub_of rfl ?_) (ih13 0 (y4 + 1) ⟨by omega, by omega, (fun z => by omega)⟩ (by omega))
              exact ⟨rfl, rfl, rfl, rfl, rfl, trivial⟩
            · replace h21 : (w 281 (w 342 m + y4) : Int) = w 281 (w 342 n + y4) := by have q : ¬ ((w 281 (w 342 m + y4) : Int) ≠ w 281 (w 342 n + y4)) := h21; omega
              refine e_Ok.run (t' := (76, [(3, (0, 1)), (0, (1, 275)), (1, (0, m)), (2, (0, n)), (4, (0, y4))], [], w)) 3 rfl ?_
              refine e_Ok.inc (z := y4 + 1) rfl rfl (by omega) (by omega) ?_
              show e_Ok 20 elay ecode eI d 354 (79, [(4, (0, y4 + 1)), (3, (0, 1)), (0, (1, 275)), (1, (0, m)), (2, (0, n))], [], w) _
              refine e_Ok.run (t' := (24, [(4, (0, y4 + 1)), (3, (0, 1)), (0, (1, 275)), (1, (0, m)), (2, (0, n))], [], w)) 1 rfl ?_
              refine e_Ok.sub eAlk (e_sub_of rfl ?_) (ih13 1 (y4 + 1) ⟨by omega, by omega, (fun z => by omega)⟩ (by omega))
              exact ⟨rfl, rfl, rfl, rfl, rfl, trivial⟩
    refine e_Ok.sub eAlk (e_sub_of rfl ?_) (hL12 (4001 + 1 : Int).toNat 1 0 ⟨by omega, by omega, (fun z => by omega)⟩ (by omega))
    exact ⟨rfl, rfl, rfl, rfl, rfl, trivial⟩
theorem c_355 {d : Nat} (hd : 21 ≤ d) {w : eW} (hT : e_Has mTy w) (hH : e_Has hTy w) {N mm f n q : Int} (hN : N ≤ 4000) (hmm : 0 ≤ mm ∧ mm ≤ 4099) (hf : 0 ≤ f ∧ f ≤ 1) (hn : 0 ≤ n ∧ n < mm) (hq : 0 ≤ q ∧ q ≤ mm) (hR : ∀ m, 0 ≤ m → m < mm → 0 ≤ w 341 m ∧ w 341 m ≤ 4) (hB : ∀ m, 0 ≤ m → m < mm → w 341 m ≠ 4 → 0 ≤ w 342 m ∧ 0 ≤ w 343 m ∧ w 342 m + w 343 m ≤ N) (h4 : w 341 n ≠ 4) : e_Ok 20 elay ecode eI d 355 (0, [(0, (1, 275)), (1, (0, f)), (2, (0, n)), (3, (0, q))], [], w) (fun r w' => ∃ z : Int, r = [(0, z)] ∧ w = w' ∧ -1 ≤ z ∧ z ≤ 4099 ∧ (0 ≤ z → z < cntK w f q)) := by
  obtain ⟨d, rfl⟩ : ∃ e, d = e + 1 := ⟨d - 1, by omega⟩
  refine e_Ok.run (t' := (6, [(5, (0, 0)), (4, (0, 0)), (0, (1, 275)), (1, (0, f)), (2, (0, n)), (3, (0, q))], [], w)) 4 rfl ?_
  have hL1 : ∀ (nn : Nat) (y4 : Int) (y5 : Int), (y4 = cntK w f y5) ∧ ((0 ≤ y5 ∧ y5 ≤ q ∧ 0 ≤ y4 ∧ y4 ≤ y5)) → q - y5 < nn → e_Ok 20 elay ecode eI (d + 1) 355 (6, [(0, (1, 275)), (1, (0, f)), (2, (0, n)), (3, (0, q)), (4, (0, y4)), (5, (0, y5))], [], w) (fun r w' => ∃ z : Int, r = [(0, z)] ∧ w = w' ∧ -1 ≤ z ∧ z ≤ 4099 ∧ (0 ≤ z → z < cntK w f q)) := by
    intro nn
    induction nn with
    | zero => intro y4 y5 hj hm; obtain ⟨j3, j4⟩ := hj; exfalso; omega
    | succ nn ih2 =>
      intro y4 y5 hj hm
      obtain ⟨j3, j4⟩ := hj
      refine e_Ok.run (t' := (9, [(0, (1, 275)), (1, (0, f)), (2, (0, n)), (3, (0, q)), (4, (0, y4)), (5, (0, y5))], [(0, q), (0, y5)], w)) 2 rfl ?_
      refine e_Ok.if2 rfl (fun h5 => ?_) (fun h5 => ?_)
      · replace h5 : (y5 : Int) ≥ q := h5
        refine e_Ok.run (t' := (46, [(0, (1, 275)), (1, (0, f)), (2, (0, n)), (3, (0, q)), (4, (0, y4)), (5, (0, y5))], [(0, (-1))], w)) 1 rfl ?_
        refine e_Ok.rets rfl rfl ?_
        exact ⟨_, rfl, rfl, by decide, by decide, fun z => absurd z (by decide)⟩
      · replace h5 : (y5 : Int) < q := by have q : ¬ ((y5 : Int) ≥ q) := h5; omega
        have hk := hR y5 (by omega) (by omega)
        refine e_Ok.run (t' := (13, [(0, (1, 275)), (1, (0, f)), (2, (0, n)), (3, (0, q)), (4, (0, y4)), (5, (0, y5))], [(1, 275)], w)) 1 rfl ?_
        refine e_Ok.getr (z := 341) rfl (el_o rfl) rfl rfl (e_Has.eq hT rfl) (by omega) ?_
        refine e_Ok.run (t' := (18, [(0, (1, 275)), (1, (0, f)), (2, (0, n)), (3, (0, q)), (4, (0, y4)), (5, (0, y5))], [(0, y5), (1, 341)], w)) 1 rfl ?_
        refine e_Ok.ald (z := w 341 y5) rfl (el_o rfl) rfl (by omega) rfl (by omega) ?_
        refine e_Ok.run (t' := (20, [(0, (1, 275)), (1, (0, f)), (2, (0, n)), (3, (0, q)), (4, (0, y4)), (5, (0, y5))], [(0, f), (0, w 341 y5)], w)) 1 rfl ?_
        refine e_Ok.if2 rfl (fun h6 => ?_) (fun h6 => ?_)
        · replace h6 : (w 341 y5 : Int) ≠ f := h6
          refine e_Ok.inc (z := y5 + 1) rfl rfl (by omega) (by omega) ?_
          show e_Ok 20 elay ecode eI (d + 1) 355 (42, [(5, (0, y5 + 1)), (0, (1, 275)), (1, (0, f)), (2, (0, n)), (3, (0, q)), (4, (0, y4))], [], w) _
          refine e_Ok.run (t' := (6, [(5, (0, y5 + 1)), (0, (1, 275)), (1, (0, f)), (2, (0, n)), (3, (0, q)), (4, (0, y4))], [], w)) 1 rfl ?_
          refine e_Ok.sub eAlk (e_sub_of rfl ?_) (ih2 y4 (y5 + 1) ⟨(by rw [cntK_next w f (show 0 ≤ y5 by omega)]; split <;> omega), by omega⟩ (by omega))
          exact ⟨rfl, rfl, rfl, rfl, rfl, rfl, trivial⟩
        · replace h6 : (w 341 y5 : Int) = f := by have q : ¬ ((w 341 y5 : Int) ≠ f) := h6; omega
          refine e_Ok.run (t' := (27, [(0, (1, 275)), (1, (0, f)), (2, (0, n)), (3, (0, q)), (4, (0, y4)), (5, (0, y5))], [(0, n), (0, y5), (1, 275)], w)) 3 rfl ?_
          refine e_Ok.callV rfl (by omega) rfl rfl rfl rfl (c_354 hT hH (N := N) hN (by omega) (by omega) (hB y5 (by omega) (by omega) (by omega)) (hB n (by omega) (by omega) h4)) (fun r7 w8 h9 => ?_)
          obtain ⟨z10, rfl, rfl, q11⟩ := h9
          show e_Ok 20 elay ecode eI (d + 1) 355 (30, [(0, (1, 275)), (1, (0, f)), (2, (0, n)), (3, (0, q)), (4, (0, y4)), (5, (0, y5))], [(0, z10)], w) _
          refine e_Ok.if1 rfl (fun h12 => ?_) (fun h12 => ?_)
          · replace h12 : (z10 : Int) = 0 := h12
            refine e_Ok.inc (z := y4 + 1) rfl rfl (by omega) (by omega) ?_
            show e_Ok 20 elay ecode eI (d + 1) 355 (39, [(4, (0, y4 + 1)), (0, (1, 275)), (1, (0, f)), (2, (0, n)), (3, (0, q)), (5, (0, y5))], [], w) _
            refine e_Ok.inc (z := y5 + 1) rfl rfl (by omega) (by omega) ?_
            show e_Ok 20 elay ecode eI (d + 1) 355 (42, [(5, (0, y5 + 1)), (4, (0, y4 + 1)), (0, (1, 275)), (1, (0, f)), (2, (0, n)), (3, (0, q))], [], w) _
            refine e_Ok.run (t' := (6, [(5, (0, y5 + 1)), (4, (0, y4 + 1)), (0, (1, 275)), (1, (0, f)), (2, (0, n)), (3, (0, q))], [], w)) 1 rfl ?_
            refine e_Ok.sub eAlk (e_sub_of rfl ?_) (ih2 (y4 + 1) (y5 + 1) ⟨(by rw [cntK_next w f (show 0 ≤ y5 by omega)]; split <;> omega), by omega⟩ (by omega))
            exact ⟨rfl, rfl, rfl, rfl, rfl, rfl, trivial⟩
          · replace h12 : (z10 : Int) ≠ 0 := by have q : ¬ ((z10 : Int) = 0) := h12; omega
            refine e_Ok.run (t' := (35, [(0, (1, 275)), (1, (0, f)), (2, (0, n)), (3, (0, q)), (4, (0, y4)), (5, (0, y5))], [(0, y4)], w)) 1 rfl ?_
            refine e_Ok.rets rfl rfl ?_
            exact ⟨_, rfl, rfl, by omega, by omega, fun _ => by rw [j3]; exact cntK_lt (by omega) (by omega) (by omega)⟩
  refine e_Ok.sub eAlk (e_sub_of rfl ?_) (hL1 (4100 + 1 : Int).toNat 0 0 ⟨(cntK_zero w f).symm, by omega⟩ (by omega))
  exact ⟨rfl, rfl, rfl, rfl, rfl, rfl, trivial⟩
theorem c_356_0 {d : Nat} (hd : 22 ≤ d) {w : eW} (hT : e_Has mTy w) (hH : e_Has hTy w) {N n mm : Int} (hN : N ≤ 4000) (hm94 : w 275 94 = mm) (hmm : 0 ≤ mm ∧ mm ≤ 4099) (hnr : 0 ≤ n ∧ n ≤ 9900) (hf : w 275 88 ≠ 0) : e_Ok 20 elay ecode eI d 356 (0, [(0, (1, 275))], [], w) (fun r w' => r = [] ∧ w = w') := by
  obtain ⟨d, rfl⟩ : ∃ e, d = e + 1 := ⟨d - 1, by omega⟩
  have hfr := e_Has.get hH (c := 275) (k := 88) (lo := 0) (hi := 7) rfl (by decide)
  refine e_Ok.run (t' := (4, [(1, (0, 0)), (0, (1, 275))], [(1, 275), (0, 0)], w)) 4 rfl ?_
  refine e_Ok.getf (z := mm) rfl (el_o rfl) rfl rfl hm94 (by omega) ?_
  refine e_Ok.if2 rfl (fun h1 => ?_) (fun h1 => ?_)
  · replace h1 : (0 : Int) ≥ mm := h1
    refine e_Ok.rets rfl rfl ?_
    exact ⟨rfl, rfl⟩
  · replace h1 : (0 : Int) < mm := by have q : ¬ ((0 : Int) ≥ mm) := h1; omega
    refine e_Ok.run (t' := (11, [(1, (0, 0)), (0, (1, 275))], [(1, 275)], w)) 1 rfl ?_
    refine e_Ok.getf (z := w 275 88) rfl (el_o rfl) rfl rfl rfl (by omega) ?_
    refine e_Ok.if1 rfl (fun h2 => ?_) (fun h2 => ?_)
    · replace h2 : (w 275 88 : Int) ≠ 0 := h2
      refine e_Ok.rets rfl rfl ?_
      exact ⟨rfl, rfl⟩
    · replace h2 : (w 275 88 : Int) = 0 := by have q : ¬ ((w 275 88 : Int) ≠ 0) := h2; omega
      exfalso; omega
theorem no_bk_0 : ¬ mRsv 275 94 := by unfold mRsv; omega
theorem no_bk_1 {k : Int} : ¬ mRsv 341 k := by unfold mRsv; omega
theorem no_bk_2 {k : Int} : ¬ mRsv 342 k := by unfold mRsv; omega
theorem no_bk_3 {k : Int} : ¬ mRsv 343 k := by unfold mRsv; omega
theorem no_bk_4 : ¬ mRsv 275 90 := by unfold mRsv; omega
theorem no_bk_5 : ¬ mRsv 275 66 := by unfold mRsv; omega
theorem no_bk_6 : ¬ mRsv 275 93 := by unfold mRsv; omega
theorem no_bk_7 {k : Int} : ¬ mRsv 344 k := by unfold mRsv; omega
theorem no_bk_8 : ¬ mRsv 275 91 := by unfold mRsv; omega
theorem no_bk_9 : ¬ mRsv 275 75 := by unfold mRsv; omega
theorem no_bk_10 : ¬ mRsv 275 74 := by unfold mRsv; omega
theorem no_bk_11 : ¬ mRsv 275 76 := by unfold mRsv; omega
set_option maxHeartbeats 4000000 in
theorem c_356 {d : Nat} (hd : 25 ≤ d) {w : eW} (hT : e_Has mTy w) (hH : e_Has hTy w) {N n mm : Int} (hN : N ≤ 4000) (hm94 : w 275 94 = mm) (hmm : 0 ≤ mm ∧ mm ≤ 4099) (hnr : 0 ≤ n ∧ n ≤ 9900) (h0 : w 275 88 = 0) (hNM : NM w N n mm) (hK : nK w n mm (fun _ => False)) (h9 : w 339 4 = 0) (h8 : w 338 4 = 0) : e_Ok 20 elay ecode eI d 356 (0, [(0, (1, 275))], [], w) (fun r w' => r = [] ∧ e_fr mRsv w w' ∧ e_Has mTy w' ∧ e_Has hTy w' ∧ (w' 275 88 = 0 → RS w w' n mm mm)) := by
  obtain ⟨d, rfl⟩ : ∃ e, d = e + 1 := ⟨d - 1, by omega⟩
  refine e_Ok.run (t' := (2, [(1, (0, 0)), (0, (1, 275))], [], w)) 2 rfl ?_
  have hL1 : ∀ (nn : Nat) (y1 : Int) (v1 : eW), e_fr mRsv w v1 ∧ e_Has mTy v1 ∧ e_Has hTy v1 ∧ ((0 ≤ y1 ∧ y1 ≤ mm)) ∧ Hid (v1 275 88 = 0 → RS w v1 n mm y1) → mm - y1 < nn → e_Ok 20 elay ecode eI (d + 1) 356 (2, [(0, (1, 275)), (1, (0, y1))], [], v1) (fun r w' => r = [] ∧ e_fr mRsv w w' ∧ e_Has mTy w' ∧ e_Has hTy w' ∧ (w' 275 88 = 0 → RS w w' n mm mm)) := by
    intro nn
    induction nn with
    | zero => intro y1 v1 hj hm; obtain ⟨j3, j4, j5, j6, j7⟩ := hj; exfalso; omega
    | succ nn ih2 =>
      intro y1 v1 hj hm
      obtain ⟨j3, j4, j5, j6, j7⟩ := hj
      have xf := e_Has.get j5 (c := 275) (k := 88) (lo := 0) (hi := 7) rfl (by decide)
      refine e_Ok.run (t' := (4, [(0, (1, 275)), (1, (0, y1))], [(1, 275), (0, y1)], v1)) 2 rfl ?_
      refine e_Ok.getf (z := mm) rfl (el_o rfl) rfl rfl ((j3 275 94 no_bk_0).trans hm94) (by omega) ?_
      refine e_Ok.if2 rfl (fun h8 => ?_) (fun h8 => ?_)
      · replace h8 : (y1 : Int) ≥ mm := h8
        refine e_Ok.rets rfl rfl ?_
        exact ⟨rfl, j3, j4, j5, (fun z => by have y := j7.out z; rw [show y1 = mm by omega] at y; exact y)⟩
      · replace h8 : (y1 : Int) < mm := by have q : ¬ ((y1 : Int) ≥ mm) := h8; omega
        refine e_Ok.run (t' := (11, [(0, (1, 275)), (1, (0, y1))], [(1, 275)], v1)) 1 rfl ?_
        have h9 := (e_Has.get j5 (c := 275) (k := 88) (lo := 0) (hi := 7) rfl (by decide))
        refine e_Ok.getf (z := v1 275 88) rfl (el_o rfl) rfl rfl rfl (by omega) ?_
        refine e_Ok.if1 rfl (fun h10 => ?_) (fun h10 => ?_)
        · replace h10 : (v1 275 88 : Int) ≠ 0 := h10
          refine e_Ok.rets rfl rfl ?_
          exact ⟨rfl, j3, j4, j5, (fun z => absurd z (by omega))⟩
        · replace h10 : (v1 275 88 : Int) = 0 := by have q : ¬ ((v1 275 88 : Int) ≠ 0) := h10; omega
          have hk := hNM.1 y1 (by omega) (by omega)
          unfold nmO at hk
          obtain ⟨hk1, hk2, hk3⟩ := hk
          replace hk3 := (show Hid _ from hk3)
          have hRS := j7.out (by omega)
          have hr1 := hRS.1
          have hr2 := hRS.2.1
          have hc0 := cntK_nn w 0 y1
          have hc1 := cntK_nn w 1 y1
          have h41 : ∀ m, v1 341 m = w 341 m := fun m => j3 341 m no_bk_1
          have hRv : ∀ m, 0 ≤ m → m < mm → 0 ≤ v1 341 m ∧ v1 341 m ≤ 4 := fun m m1 m2 => by rw [h41]; exact (hNM.1 m m1 m2).1
          have hBv : ∀ m, 0 ≤ m → m < mm → v1 341 m ≠ 4 → 0 ≤ v1 342 m ∧ 0 ≤ v1 343 m ∧ v1 342 m + v1 343 m ≤ N := fun m m1 m2 m3 => by rw [h41] at m3; rw [j3 342 m no_bk_2, j3 343 m no_bk_3]; have y := (hNM.1 m m1 m2).2.2 m3; exact ⟨y.1, y.2.1, y.2.2.1⟩
          refine e_Ok.run (t' := (18, [(0, (1, 275)), (1, (0, y1))], [(1, 275)], v1)) 1 rfl ?_
          refine e_Ok.getr (z := 341) rfl (el_o rfl) rfl rfl ((j3 275 90 no_bk_4).trans (e_Has.eq hT rfl)) (by omega) ?_
          refine e_Ok.run (t' := (22, [(0, (1, 275)), (1, (0, y1))], [(0, y1), (1, 341)], v1)) 1 rfl ?_
          refine e_Ok.ald (z := w 341 y1) rfl (el_o rfl) rfl (by omega) ((j3 341 y1 no_bk_1).trans rfl) (by omega) ?_
          refine e_Ok.run (t' := (28, [(3, (0, 0)), (2, (0, w 341 y1)), (0, (1, 275)), (1, (0, y1))], [(0, 2), (0, w 341 y1)], v1)) 5 rfl ?_
          refine e_Ok.if2 rfl (fun h11 => ?_) (fun h11 => ?_)
          · replace h11 : (w 341 y1 : Int) ≥ 2 := h11
            refine e_Ok.run (t' := (147, [(3, (0, 0)), (2, (0, w 341 y1)), (0, (1, 275)), (1, (0, y1))], [(0, 4), (0, w 341 y1)], v1)) 2 rfl ?_
            refine e_Ok.if2 rfl (fun h12 => ?_) (fun h12 => ?_)
            · replace h12 : (w 341 y1 : Int) ≠ 4 := h12
              have hk4 := hk3.out (by omega)
              refine e_Ok.run (t' := (159, [(3, (0, 0)), (2, (0, w 341 y1)), (0, (1, 275)), (1, (0, y1))], [(0, 2), (0, w 341 y1), (1, 275)], v1)) 3 rfl ?_
              refine e_Ok.sub' (z := w 341 y1 - 2) rfl (by omega) (by omega) ?_
              refine e_Ok.run (t' := (162, [(3, (0, 0)), (2, (0, w 341 y1)), (0, (1, 275)), (1, (0, y1))], [(1, 275), (0, y1), (0, w 341 y1 - 2), (1, 275)], v1)) 2 rfl ?_
              refine e_Ok.getf (z := mm) rfl (el_o rfl) rfl rfl ((j3 275 94 no_bk_0).trans hm94) (by omega) ?_
              refine e_Ok.callV rfl (by omega) rfl rfl rfl rfl (c_355 (by omega) j4 j5 (N := N) (mm := mm) (f := w 341 y1 - 2) (n := y1) (q := mm) hN hmm (by omega) (by omega) (by omega) hRv hBv (by rw [h41]; omega)) (fun r13 w14 h15 => ?_)
              obtain ⟨z16, rfl, rfl, q17, q17b, q17c⟩ := h15
              rw [cntK_eq h41] at q17c
              replace q17c := (show Hid _ from q17c)
              show e_Ok 20 elay ecode eI (d + 1) 356 (168, [(3, (0, 0)), (2, (0, w 341 y1)), (0, (1, 275)), (1, (0, y1))], [(0, z16)], v1) _
              refine e_Ok.run (t' := (172, [(4, (0, z16)), (3, (0, 0)), (2, (0, w 341 y1)), (0, (1, 275)), (1, (0, y1))], [(0, z16)], v1)) 2 rfl ?_
              refine e_Ok.if1 rfl (fun h18 => ?_) (fun h18 => ?_)
              · replace h18 : (z16 : Int) ≥ 0 := h18
                refine e_Ok.run (t' := (182, [(3, (0, 0)), (4, (0, z16)), (2, (0, w 341 y1)), (0, (1, 275)), (1, (0, y1))], [(1, 275)], v1)) 3 rfl ?_
                refine e_Ok.getr (z := 329) rfl (el_o rfl) rfl rfl ((j3 275 66 no_bk_5).trans (e_Has.eq hT rfl)) (by omega) ?_
                refine e_Ok.run (t' := (189, [(3, (0, 0)), (4, (0, z16)), (2, (0, w 341 y1)), (0, (1, 275)), (1, (0, y1))], [(1, 275), (0, 40000), (1, 329)], v1)) 2 rfl ?_
                refine e_Ok.getr (z := 344) rfl (el_o rfl) rfl rfl ((j3 275 93 no_bk_6).trans (e_Has.eq hT rfl)) (by omega) ?_
                refine e_Ok.run (t' := (193, [(3, (0, 0)), (4, (0, z16)), (2, (0, w 341 y1)), (0, (1, 275)), (1, (0, y1))], [(0, y1), (1, 344), (0, 40000), (1, 329)], v1)) 1 rfl ?_
                refine e_Ok.ald (z := w 344 y1) rfl (el_o rfl) rfl (by omega) ((j3 344 y1 no_bk_7).trans rfl) (by omega) ?_
                refine e_Ok.add (z := w 344 y1 + 40000) rfl (by omega) (by omega) ?_
                refine e_Ok.run (t' := (197, [(3, (0, 0)), (4, (0, z16)), (2, (0, w 341 y1)), (0, (1, 275)), (1, (0, y1))], [(0, z16), (0, w 344 y1 + 40000), (1, 329)], v1)) 1 rfl ?_
                refine e_Ok.ast rfl (el_o rfl) rfl rfl (by omega) ?_
                generalize hw19 : e_up v1 329 (w 344 y1 + 40000) z16 = w19
                have f20 : e_fr mRsv w w19 := e_fr.up j3 hw19 (by first | exact Or.inl ⟨rfl, (by omega)⟩ | (unfold mRsv; omega))
                have hH21 : e_Has hTy w19 := e_Has.ups j5 hw19 rfl
                have hT22 : e_Has mTy w19 := e_Has.upr j4 hw19 rfl (by omega)
                refine e_Ok.run (t' := (199, [(3, (0, 0)), (4, (0, z16)), (2, (0, w 341 y1)), (0, (1, 275)), (1, (0, y1))], [(0, 0)], w19)) 1 rfl ?_
                refine e_Ok.if1 rfl (fun h23 => ?_) (fun h23 => ?_)
                · replace h23 : (0 : Int) = 0 := h23
                  refine e_Ok.inc (z := y1 + 1) rfl rfl (by omega) (by omega) ?_
                  show e_Ok 20 elay ecode eI (d + 1) 356 (220, [(1, (0, y1 + 1)), (3, (0, 0)), (4, (0, z16)), (2, (0, w 341 y1)), (0, (1, 275))], [], w19) _
                  refine e_Ok.run (t' := (2, [(1, (0, y1 + 1)), (3, (0, 0)), (4, (0, z16)), (2, (0, w 341 y1)), (0, (1, 275))], [], w19)) 1 rfl ?_
                  refine e_Ok.sub eAlk (e_sub_of rfl ?_) (ih2 (y1 + 1) w19 ⟨f20, hT22, hH21, by omega, (Hid.mk (fun z => RS.use hRS (by omega) (by omega) hK hw19 ⟨by omega, q17c.out (by omega)⟩))⟩ (by omega))
                  exact ⟨rfl, rfl, trivial⟩
                · replace h23 : (0 : Int) ≠ 0 := by have q : ¬ ((0 : Int) = 0) := h23; omega
                  exfalso; omega
              · replace h18 : (z16 : Int) < 0 := by have q : ¬ ((z16 : Int) ≥ 0) := h18; omega
                refine e_Ok.run (t' := (182, [(3, (0, 5)), (4, (0, z16)), (2, (0, w 341 y1)), (0, (1, 275)), (1, (0, y1))], [(1, 275)], v1)) 4 rfl ?_
                refine e_Ok.getr (z := 329) rfl (el_o rfl) rfl rfl ((j3 275 66 no_bk_5).trans (e_Has.eq hT rfl)) (by omega) ?_
                refine e_Ok.run (t' := (189, [(3, (0, 5)), (4, (0, z16)), (2, (0, w 341 y1)), (0, (1, 275)), (1, (0, y1))], [(1, 275), (0, 40000), (1, 329)], v1)) 2 rfl ?_
                refine e_Ok.getr (z := 344) rfl (el_o rfl) rfl rfl ((j3 275 93 no_bk_6).trans (e_Has.eq hT rfl)) (by omega) ?_
                refine e_Ok.run (t' := (193, [(3, (0, 5)), (4, (0, z16)), (2, (0, w 341 y1)), (0, (1, 275)), (1, (0, y1))], [(0, y1), (1, 344), (0, 40000), (1, 329)], v1)) 1 rfl ?_
                refine e_Ok.ald (z := w 344 y1) rfl (el_o rfl) rfl (by omega) ((j3 344 y1 no_bk_7).trans rfl) (by omega) ?_
                refine e_Ok.add (z := w 344 y1 + 40000) rfl (by omega) (by omega) ?_
                refine e_Ok.run (t' := (197, [(3, (0, 5)), (4, (0, z16)), (2, (0, w 341 y1)), (0, (1, 275)), (1, (0, y1))], [(0, z16), (0, w 344 y1 + 40000), (1, 329)], v1)) 1 rfl ?_
                refine e_Ok.ast rfl (el_o rfl) rfl rfl (by omega) ?_
                generalize hw24 : e_up v1 329 (w 344 y1 + 40000) z16 = w24
                have f25 : e_fr mRsv w w24 := e_fr.up j3 hw24 (by first | exact Or.inl ⟨rfl, (by omega)⟩ | (unfold mRsv; omega))
                have hH26 : e_Has hTy w24 := e_Has.ups j5 hw24 rfl
                have hT27 : e_Has mTy w24 := e_Has.upr j4 hw24 rfl (by omega)
                refine e_Ok.run (t' := (199, [(3, (0, 5)), (4, (0, z16)), (2, (0, w 341 y1)), (0, (1, 275)), (1, (0, y1))], [(0, 5)], w24)) 1 rfl ?_
                refine e_Ok.if1 rfl (fun h28 => ?_) (fun h28 => ?_)
                · replace h28 : (5 : Int) = 0 := h28
                  exfalso; omega
                · replace h28 : (5 : Int) ≠ 0 := by have q : ¬ ((5 : Int) = 0) := h28; omega
                  refine e_Ok.run (t' := (204, [(3, (0, 5)), (4, (0, z16)), (2, (0, w 341 y1)), (0, (1, 275)), (1, (0, y1))], [(0, 5), (1, 275)], w24)) 2 rfl ?_
                  refine e_Ok.putf rfl (el_o rfl) rfl rfl ?_
                  generalize hw29 : e_up w24 275 88 5 = w29
                  have f30 : e_fr mRsv w w29 := e_fr.up f25 hw29 (by first | exact Or.inr (Or.inr (Or.inr ⟨rfl, Or.inl rfl⟩)) | (unfold mRsv; omega))
                  have hH31 : e_Has hTy w29 := e_Has.upr hH26 hw29 rfl (by omega)
                  have hT32 : e_Has mTy w29 := e_Has.ups hT27 hw29 rfl
                  refine e_Ok.run (t' := (209, [(3, (0, 5)), (4, (0, z16)), (2, (0, w 341 y1)), (0, (1, 275)), (1, (0, y1))], [(1, 275), (1, 275)], w29)) 2 rfl ?_
                  refine e_Ok.getr (z := 342) rfl (el_o rfl) rfl rfl (by rw [← hw29]; exact (e_up_ne _ _ (Or.inr (by omega))).trans (by rw [← hw24]; exact (e_up_ne _ _ (Or.inl (by omega))).trans ((j3 275 91 no_bk_8).trans (e_Has.eq hT rfl)))) (by omega) ?_
                  refine e_Ok.run (t' := (213, [(3, (0, 5)), (4, (0, z16)), (2, (0, w 341 y1)), (0, (1, 275)), (1, (0, y1))], [(0, y1), (1, 342), (1, 275)], w29)) 1 rfl ?_
                  refine e_Ok.ald (z := w 342 y1) rfl (el_o rfl) rfl (by omega) (by rw [← hw29]; exact (e_up_ne _ _ (Or.inl (by omega))).trans (by rw [← hw24]; exact (e_up_ne _ _ (Or.inl (by omega))).trans ((j3 342 y1 no_bk_2).trans rfl))) (by omega) ?_
                  refine e_Ok.putf rfl (el_o rfl) rfl rfl ?_
                  generalize hw33 : e_up w29 275 89 (w 342 y1) = w33
                  have f34 : e_fr mRsv w w33 := e_fr.up f30 hw33 (by first | exact Or.inr (Or.inr (Or.inr ⟨rfl, Or.inr rfl⟩)) | (unfold mRsv; omega))
                  have hH35 : e_Has hTy w33 := e_Has.upr hH31 hw33 rfl (by omega)
                  have hT36 : e_Has mTy w33 := e_Has.ups hT32 hw33 rfl
                  refine e_Ok.inc (z := y1 + 1) rfl rfl (by omega) (by omega) ?_
                  show e_Ok 20 elay ecode eI (d + 1) 356 (220, [(1, (0, y1 + 1)), (3, (0, 5)), (4, (0, z16)), (2, (0, w 341 y1)), (0, (1, 275))], [], w33) _
                  refine e_Ok.run (t' := (2, [(1, (0, y1 + 1)), (3, (0, 5)), (4, (0, z16)), (2, (0, w 341 y1)), (0, (1, 275))], [], w33)) 1 rfl ?_
                  refine e_Ok.sub eAlk (e_sub_of rfl ?_) (ih2 (y1 + 1) w33 ⟨f34, hT36, hH35, by omega, (Hid.mk (fun z => absurd (Eq.trans (Eq.symm (show w33 275 88 = 5 from (by rw [← hw33]; exact (e_up_ne _ _ (Or.inr (by omega))).trans (by rw [← hw29]; exact e_up_eq _ _ _ _)))) z) (by decide)))⟩ (by omega))
                  exact ⟨rfl, rfl, trivial⟩
            · replace h12 : (w 341 y1 : Int) = 4 := by have q : ¬ ((w 341 y1 : Int) ≠ 4) := h12; omega
              refine e_Ok.run (t' := (199, [(3, (0, 6)), (2, (0, w 341 y1)), (0, (1, 275)), (1, (0, y1))], [(0, 6)], v1)) 4 rfl ?_
              refine e_Ok.if1 rfl (fun h37 => ?_) (fun h37 => ?_)
              · replace h37 : (6 : Int) = 0 := h37
                exfalso; omega
              · replace h37 : (6 : Int) ≠ 0 := by have q : ¬ ((6 : Int) = 0) := h37; omega
                refine e_Ok.run (t' := (204, [(3, (0, 6)), (2, (0, w 341 y1)), (0, (1, 275)), (1, (0, y1))], [(0, 6), (1, 275)], v1)) 2 rfl ?_
                refine e_Ok.putf rfl (el_o rfl) rfl rfl ?_
                generalize hw38 : e_up v1 275 88 6 = w38
                have f40 : e_fr mRsv w w38 := e_fr.up j3 hw38 (by first | exact Or.inr (Or.inr (Or.inr ⟨rfl, Or.inl rfl⟩)) | (unfold mRsv; omega))
                have hH41 : e_Has hTy w38 := e_Has.upr j5 hw38 rfl (by omega)
                have hT42 : e_Has mTy w38 := e_Has.ups j4 hw38 rfl
                refine e_Ok.run (t' := (209, [(3, (0, 6)), (2, (0, w 341 y1)), (0, (1, 275)), (1, (0, y1))], [(1, 275), (1, 275)], w38)) 2 rfl ?_
                refine e_Ok.getr (z := 342) rfl (el_o rfl) rfl rfl (by rw [← hw38]; exact (e_up_ne _ _ (Or.inr (by omega))).trans ((j3 275 91 no_bk_8).trans (e_Has.eq hT rfl))) (by omega) ?_
                refine e_Ok.run (t' := (213, [(3, (0, 6)), (2, (0, w 341 y1)), (0, (1, 275)), (1, (0, y1))], [(0, y1), (1, 342), (1, 275)], w38)) 1 rfl ?_
                refine e_Ok.ald (z := w 342 y1) rfl (el_o rfl) rfl (by omega) (by rw [← hw38]; exact (e_up_ne _ _ (Or.inl (by omega))).trans ((j3 342 y1 no_bk_2).trans rfl)) (by omega) ?_
                refine e_Ok.putf rfl (el_o rfl) rfl rfl ?_
                generalize hw43 : e_up w38 275 89 (w 342 y1) = w43
                have f44 : e_fr mRsv w w43 := e_fr.up f40 hw43 (by first | exact Or.inr (Or.inr (Or.inr ⟨rfl, Or.inr rfl⟩)) | (unfold mRsv; omega))
                have hH45 : e_Has hTy w43 := e_Has.upr hH41 hw43 rfl (by omega)
                have hT46 : e_Has mTy w43 := e_Has.ups hT42 hw43 rfl
                refine e_Ok.inc (z := y1 + 1) rfl rfl (by omega) (by omega) ?_
                show e_Ok 20 elay ecode eI (d + 1) 356 (220, [(1, (0, y1 + 1)), (3, (0, 6)), (2, (0, w 341 y1)), (0, (1, 275))], [], w43) _
                refine e_Ok.run (t' := (2, [(1, (0, y1 + 1)), (3, (0, 6)), (2, (0, w 341 y1)), (0, (1, 275))], [], w43)) 1 rfl ?_
                refine e_Ok.sub eAlk (e_sub_of rfl ?_) (ih2 (y1 + 1) w43 ⟨f44, hT46, hH45, by omega, (Hid.mk (fun z => absurd (Eq.trans (Eq.symm (show w43 275 88 = 6 from (by rw [← hw43]; exact (e_up_ne _ _ (Or.inr (by omega))).trans (by rw [← hw38]; exact e_up_eq _ _ _ _)))) z) (by decide)))⟩ (by omega))
                exact ⟨rfl, rfl, trivial⟩
          · replace h11 : (w 341 y1 : Int) < 2 := by have q : ¬ ((w 341 y1 : Int) ≥ 2) := h11; omega
            have hk4 := hk3.out (by omega)
            refine e_Ok.run (t' := (35, [(3, (0, 0)), (2, (0, w 341 y1)), (0, (1, 275)), (1, (0, y1))], [(0, y1), (0, y1), (0, 0), (1, 275)], v1)) 4 rfl ?_
            refine e_Ok.callV rfl (by omega) rfl rfl rfl rfl (c_355 (by omega) j4 j5 (N := N) (mm := mm) (f := 0) (n := y1) (q := y1) hN hmm (by omega) (by omega) (by omega) hRv hBv (by rw [h41]; omega)) (fun r47 w48 h49 => ?_)
            obtain ⟨z50, rfl, rfl, q51, q51b, q51c⟩ := h49
            rw [cntK_eq h41] at q51c
            replace q51c := (show Hid _ from q51c)
            show e_Ok 20 elay ecode eI (d + 1) 356 (38, [(3, (0, 0)), (2, (0, w 341 y1)), (0, (1, 275)), (1, (0, y1))], [(0, z50)], v1) _
            refine e_Ok.if1 rfl (fun h52 => ?_) (fun h52 => ?_)
            · replace h52 : (z50 : Int) ≥ 0 := h52
              refine e_Ok.run (t' := (87, [(3, (0, 4)), (2, (0, w 341 y1)), (0, (1, 275)), (1, (0, y1))], [(0, 4)], v1)) 4 rfl ?_
              refine e_Ok.if1 rfl (fun h53 => ?_) (fun h53 => ?_)
              · replace h53 : (4 : Int) ≠ 0 := h53
                refine e_Ok.run (t' := (108, [(3, (0, 4)), (2, (0, w 341 y1)), (0, (1, 275)), (1, (0, y1))], [(0, 4)], v1)) 1 rfl ?_
                refine e_Ok.if1 rfl (fun h54 => ?_) (fun h54 => ?_)
                · replace h54 : (4 : Int) ≠ 0 := h54
                  refine e_Ok.run (t' := (199, [(3, (0, 4)), (2, (0, w 341 y1)), (0, (1, 275)), (1, (0, y1))], [(0, 4)], v1)) 1 rfl ?_
                  refine e_Ok.if1 rfl (fun h55 => ?_) (fun h55 => ?_)
                  · replace h55 : (4 : Int) = 0 := h55
                    exfalso; omega
                  · replace h55 : (4 : Int) ≠ 0 := by have q : ¬ ((4 : Int) = 0) := h55; omega
                    refine e_Ok.run (t' := (204, [(3, (0, 4)), (2, (0, w 341 y1)), (0, (1, 275)), (1, (0, y1))], [(0, 4), (1, 275)], v1)) 2 rfl ?_
                    refine e_Ok.putf rfl (el_o rfl) rfl rfl ?_
                    generalize hw56 : e_up v1 275 88 4 = w56
                    have f57 : e_fr mRsv w w56 := e_fr.up j3 hw56 (by first | exact Or.inr (Or.inr (Or.inr ⟨rfl, Or.inl rfl⟩)) | (unfold mRsv; omega))
                    have hH58 : e_Has hTy w56 := e_Has.upr j5 hw56 rfl (by omega)
                    have hT59 : e_Has mTy w56 := e_Has.ups j4 hw56 rfl
                    refine e_Ok.run (t' := (209, [(3, (0, 4)), (2, (0, w 341 y1)), (0, (1, 275)), (1, (0, y1))], [(1, 275), (1, 275)], w56)) 2 rfl ?_
                    refine e_Ok.getr (z := 342) rfl (el_o rfl) rfl rfl (by rw [← hw56]; exact (e_up_ne _ _ (Or.inr (by omega))).trans ((j3 275 91 no_bk_8).trans (e_Has.eq hT rfl))) (by omega) ?_
                    refine e_Ok.run (t' := (213, [(3, (0, 4)), (2, (0, w 341 y1)), (0, (1, 275)), (1, (0, y1))], [(0, y1), (1, 342), (1, 275)], w56)) 1 rfl ?_
                    refine e_Ok.ald (z := w 342 y1) rfl (el_o rfl) rfl (by omega) (by rw [← hw56]; exact (e_up_ne _ _ (Or.inl (by omega))).trans ((j3 342 y1 no_bk_2).trans rfl)) (by omega) ?_
                    refine e_Ok.putf rfl (el_o rfl) rfl rfl ?_
                    generalize hw60 : e_up w56 275 89 (w 342 y1) = w60
                    have f61 : e_fr mRsv w w60 := e_fr.up f57 hw60 (by first | exact Or.inr (Or.inr (Or.inr ⟨rfl, Or.inr rfl⟩)) | (unfold mRsv; omega))
                    have hH62 : e_Has hTy w60 := e_Has.upr hH58 hw60 rfl (by omega)
                    have hT63 : e_Has mTy w60 := e_Has.ups hT59 hw60 rfl
                    refine e_Ok.inc (z := y1 + 1) rfl rfl (by omega) (by omega) ?_
                    show e_Ok 20 elay ecode eI (d + 1) 356 (220, [(1, (0, y1 + 1)), (3, (0, 4)), (2, (0, w 341 y1)), (0, (1, 275))], [], w60) _
                    refine e_Ok.run (t' := (2, [(1, (0, y1 + 1)), (3, (0, 4)), (2, (0, w 341 y1)), (0, (1, 275))], [], w60)) 1 rfl ?_
                    refine e_Ok.sub eAlk (e_sub_of rfl ?_) (ih2 (y1 + 1) w60 ⟨f61, hT63, hH62, by omega, (Hid.mk (fun z => absurd (Eq.trans (Eq.symm (show w60 275 88 = 4 from (by rw [← hw60]; exact (e_up_ne _ _ (Or.inr (by omega))).trans (by rw [← hw56]; exact e_up_eq _ _ _ _)))) z) (by decide)))⟩ (by omega))
                    exact ⟨rfl, rfl, trivial⟩
                · replace h54 : (4 : Int) = 0 := by have q : ¬ ((4 : Int) ≠ 0) := h54; omega
                  exfalso; omega
              · replace h53 : (4 : Int) = 0 := by have q : ¬ ((4 : Int) ≠ 0) := h53; omega
                exfalso; omega
            · replace h52 : (z50 : Int) < 0 := by have q : ¬ ((z50 : Int) ≥ 0) := h52; omega
              refine e_Ok.run (t' := (45, [(3, (0, 0)), (2, (0, w 341 y1)), (0, (1, 275)), (1, (0, y1))], [(0, y1), (0, y1), (0, 1), (1, 275)], v1)) 4 rfl ?_
              refine e_Ok.callV rfl (by omega) rfl rfl rfl rfl (c_355 (by omega) j4 j5 (N := N) (mm := mm) (f := 1) (n := y1) (q := y1) hN hmm (by omega) (by omega) (by omega) hRv hBv (by rw [h41]; omega)) (fun r64 w65 h66 => ?_)
              obtain ⟨z67, rfl, rfl, q68, q68b, q68c⟩ := h66
              rw [cntK_eq h41] at q68c
              replace q68c := (show Hid _ from q68c)
              show e_Ok 20 elay ecode eI (d + 1) 356 (48, [(3, (0, 0)), (2, (0, w 341 y1)), (0, (1, 275)), (1, (0, y1))], [(0, z67)], v1) _
              refine e_Ok.if1 rfl (fun h69 => ?_) (fun h69 => ?_)
              · replace h69 : (z67 : Int) < 0 := h69
                refine e_Ok.run (t' := (56, [(3, (0, 0)), (2, (0, w 341 y1)), (0, (1, 275)), (1, (0, y1))], [(0, w 341 y1)], v1)) 1 rfl ?_
                refine e_Ok.if1 rfl (fun h70 => ?_) (fun h70 => ?_)
                · replace h70 : (w 341 y1 : Int) ≠ 0 := h70
                  refine e_Ok.run (t' := (69, [(3, (0, 0)), (2, (0, w 341 y1)), (0, (1, 275)), (1, (0, y1))], [(1, 275)], v1)) 1 rfl ?_
                  refine e_Ok.getr (z := 338) rfl (el_o rfl) rfl rfl ((j3 275 75 no_bk_9).trans (e_Has.eq hT rfl)) (by omega) ?_
                  refine e_Ok.run (t' := (73, [(3, (0, 0)), (2, (0, w 341 y1)), (0, (1, 275)), (1, (0, y1))], [(0, 4), (1, 338)], v1)) 1 rfl ?_
                  have h71 := (e_Has.get j4 (c := 338) (k := 4) (lo := 0) (hi := 32) rfl (by decide))
                  refine e_Ok.ald (z := v1 338 4) rfl (el_o rfl) rfl (by omega) rfl (by omega) ?_
                  refine e_Ok.run (t' := (76, [(3, (0, 0)), (2, (0, w 341 y1)), (0, (1, 275)), (1, (0, y1))], [(0, 32), (0, v1 338 4)], v1)) 1 rfl ?_
                  refine e_Ok.if2 rfl (fun h72 => ?_) (fun h72 => ?_)
                  · replace h72 : (v1 338 4 : Int) ≠ 32 := h72
                    refine e_Ok.run (t' := (87, [(3, (0, 0)), (2, (0, w 341 y1)), (0, (1, 275)), (1, (0, y1))], [(0, 0)], v1)) 3 rfl ?_
                    refine e_Ok.if1 rfl (fun h73 => ?_) (fun h73 => ?_)
                    · replace h73 : (0 : Int) ≠ 0 := h73
                      exfalso; omega
                    · replace h73 : (0 : Int) = 0 := by have q : ¬ ((0 : Int) ≠ 0) := h73; omega
                      refine e_Ok.run (t' := (91, [(3, (0, 0)), (2, (0, w 341 y1)), (0, (1, 275)), (1, (0, y1))], [(0, w 341 y1)], v1)) 1 rfl ?_
                      refine e_Ok.if1 rfl (fun h74 => ?_) (fun h74 => ?_)
                      · replace h74 : (w 341 y1 : Int) ≠ 0 := h74
                        refine e_Ok.run (t' := (108, [(3, (0, 0)), (2, (0, w 341 y1)), (0, (1, 275)), (1, (0, y1))], [(0, 0)], v1)) 1 rfl ?_
                        refine e_Ok.if1 rfl (fun h75 => ?_) (fun h75 => ?_)
                        · replace h75 : (0 : Int) ≠ 0 := h75
                          exfalso; omega
                        · replace h75 : (0 : Int) = 0 := by have q : ¬ ((0 : Int) ≠ 0) := h75; omega
                          refine e_Ok.run (t' := (112, [(3, (0, 0)), (2, (0, w 341 y1)), (0, (1, 275)), (1, (0, y1))], [(1, 275)], v1)) 1 rfl ?_
                          refine e_Ok.getr (z := 337) rfl (el_o rfl) rfl rfl ((j3 275 74 no_bk_10).trans (e_Has.eq hT rfl)) (by omega) ?_
                          refine e_Ok.run (t' := (119, [(3, (0, 0)), (2, (0, w 341 y1)), (0, (1, 275)), (1, (0, y1))], [(1, 275), (0, 128), (1, 337)], v1)) 2 rfl ?_
                          refine e_Ok.getr (z := 338) rfl (el_o rfl) rfl rfl ((j3 275 75 no_bk_9).trans (e_Has.eq hT rfl)) (by omega) ?_
                          refine e_Ok.run (t' := (123, [(3, (0, 0)), (2, (0, w 341 y1)), (0, (1, 275)), (1, (0, y1))], [(0, 4), (1, 338), (0, 128), (1, 337)], v1)) 1 rfl ?_
                          refine e_Ok.ald (z := v1 338 4) rfl (el_o rfl) rfl (by omega) rfl (by omega) ?_
                          refine e_Ok.add (z := v1 338 4 + 128) rfl (by omega) (by omega) ?_
                          refine e_Ok.run (t' := (126, [(3, (0, 0)), (2, (0, w 341 y1)), (0, (1, 275)), (1, (0, y1))], [(1, 275), (0, v1 338 4 + 128), (1, 337)], v1)) 1 rfl ?_
                          refine e_Ok.getr (z := 344) rfl (el_o rfl) rfl rfl ((j3 275 93 no_bk_6).trans (e_Has.eq hT rfl)) (by omega) ?_
                          refine e_Ok.run (t' := (130, [(3, (0, 0)), (2, (0, w 341 y1)), (0, (1, 275)), (1, (0, y1))], [(0, y1), (1, 344), (0, v1 338 4 + 128), (1, 337)], v1)) 1 rfl ?_
                          refine e_Ok.ald (z := w 344 y1) rfl (el_o rfl) rfl (by omega) ((j3 344 y1 no_bk_7).trans rfl) (by omega) ?_
                          refine e_Ok.ast rfl (el_o rfl) rfl rfl (by omega) ?_
                          generalize hw76 : e_up v1 337 (v1 338 4 + 128) (w 344 y1) = w76
                          have f77 : e_fr mRsv w w76 := e_fr.up j3 hw76 (by first | exact Or.inr (Or.inl ⟨rfl, (by omega)⟩) | (unfold mRsv; omega))
                          have hH78 : e_Has hTy w76 := e_Has.ups j5 hw76 rfl
                          have hT79 : e_Has mTy w76 := e_Has.upr j4 hw76 rfl (by omega)
                          refine e_Ok.run (t' := (133, [(3, (0, 0)), (2, (0, w 341 y1)), (0, (1, 275)), (1, (0, y1))], [(1, 275)], w76)) 1 rfl ?_
                          refine e_Ok.getr (z := 338) rfl (el_o rfl) rfl rfl (by rw [← hw76]; exact (e_up_ne _ _ (Or.inl (by omega))).trans ((j3 275 75 no_bk_9).trans (e_Has.eq hT rfl))) (by omega) ?_
                          refine e_Ok.run (t' := (138, [(3, (0, 0)), (2, (0, w 341 y1)), (0, (1, 275)), (1, (0, y1))], [(0, 4), (1, 338), (0, 4), (1, 338)], w76)) 2 rfl ?_
                          refine e_Ok.ald (z := v1 338 4) rfl (el_o rfl) rfl (by omega) (by rw [← hw76]; exact (e_up_ne _ _ (Or.inl (by omega))).trans rfl) (by omega) ?_
                          refine e_Ok.run (t' := (140, [(3, (0, 0)), (2, (0, w 341 y1)), (0, (1, 275)), (1, (0, y1))], [(0, 1), (0, v1 338 4), (0, 4), (1, 338)], w76)) 1 rfl ?_
                          refine e_Ok.add (z := v1 338 4 + 1) rfl (by omega) (by omega) ?_
                          refine e_Ok.ast rfl (el_o rfl) rfl rfl (by omega) ?_
                          generalize hw80 : e_up w76 338 4 (v1 338 4 + 1) = w80
                          have f81 : e_fr mRsv w w80 := e_fr.up f77 hw80 (by first | exact Or.inr (Or.inr (Or.inl ⟨Or.inl rfl, rfl⟩)) | (unfold mRsv; omega))
                          have hH82 : e_Has hTy w80 := e_Has.ups hH78 hw80 rfl
                          have hT83 : e_Has mTy w80 := e_Has.upr hT79 hw80 rfl (by omega)
                          refine e_Ok.run (t' := (199, [(3, (0, 0)), (2, (0, w 341 y1)), (0, (1, 275)), (1, (0, y1))], [(0, 0)], w80)) 2 rfl ?_
                          refine e_Ok.if1 rfl (fun h84 => ?_) (fun h84 => ?_)
                          · replace h84 : (0 : Int) = 0 := h84
                            refine e_Ok.inc (z := y1 + 1) rfl rfl (by omega) (by omega) ?_
                            show e_Ok 20 elay ecode eI (d + 1) 356 (220, [(1, (0, y1 + 1)), (3, (0, 0)), (2, (0, w 341 y1)), (0, (1, 275))], [], w80) _
                            refine e_Ok.run (t' := (2, [(1, (0, y1 + 1)), (3, (0, 0)), (2, (0, w 341 y1)), (0, (1, 275))], [], w80)) 1 rfl ?_
                            refine e_Ok.sub eAlk (e_sub_of rfl ?_) (ih2 (y1 + 1) w80 ⟨f81, hT83, hH82, by omega, (Hid.mk (fun z => RS.rou hRS (by omega) (by omega) (show w80 338 4 = v1 338 4 + 1 from (by rw [← hw80]; exact e_up_eq _ _ _ _)) (show w80 337 (v1 338 4 + 128) = w 344 y1 from (by rw [← hw80]; exact (e_up_ne _ _ (Or.inl (by omega))).trans (by rw [← hw76]; exact e_up_eq _ _ _ _))) (by omega) (fun c k y => Eq.trans (show w80 c k = w76 c k from by rw [← hw80]; exact e_up_ne _ _ (by omega)) (by rw [← hw76]; exact e_up_ne _ _ (by omega)))))⟩ (by omega))
                            exact ⟨rfl, rfl, trivial⟩
                          · replace h84 : (0 : Int) ≠ 0 := by have q : ¬ ((0 : Int) = 0) := h84; omega
                            exfalso; omega
                      · replace h74 : (w 341 y1 : Int) = 0 := by have q : ¬ ((w 341 y1 : Int) ≠ 0) := h74; omega
                        exfalso; omega
                  · replace h72 : (v1 338 4 : Int) = 32 := by have q : ¬ ((v1 338 4 : Int) ≠ 32) := h72; omega
                    refine e_Ok.run (t' := (87, [(3, (0, 7)), (2, (0, w 341 y1)), (0, (1, 275)), (1, (0, y1))], [(0, 7)], v1)) 4 rfl ?_
                    refine e_Ok.if1 rfl (fun h85 => ?_) (fun h85 => ?_)
                    · replace h85 : (7 : Int) ≠ 0 := h85
                      refine e_Ok.run (t' := (108, [(3, (0, 7)), (2, (0, w 341 y1)), (0, (1, 275)), (1, (0, y1))], [(0, 7)], v1)) 1 rfl ?_
                      refine e_Ok.if1 rfl (fun h86 => ?_) (fun h86 => ?_)
                      · replace h86 : (7 : Int) ≠ 0 := h86
                        refine e_Ok.run (t' := (199, [(3, (0, 7)), (2, (0, w 341 y1)), (0, (1, 275)), (1, (0, y1))], [(0, 7)], v1)) 1 rfl ?_
                        refine e_Ok.if1 rfl (fun h87 => ?_) (fun h87 => ?_)
                        · replace h87 : (7 : Int) = 0 := h87
                          exfalso; omega
                        · replace h87 : (7 : Int) ≠ 0 := by have q : ¬ ((7 : Int) = 0) := h87; omega
                          refine e_Ok.run (t' := (204, [(3, (0, 7)), (2, (0, w 341 y1)), (0, (1, 275)), (1, (0, y1))], [(0, 7), (1, 275)], v1)) 2 rfl ?_
                          refine e_Ok.putf rfl (el_o rfl) rfl rfl ?_
                          generalize hw88 : e_up v1 275 88 7 = w88
                          have f89 : e_fr mRsv w w88 := e_fr.up j3 hw88 (by first | exact Or.inr (Or.inr (Or.inr ⟨rfl, Or.inl rfl⟩)) | (unfold mRsv; omega))
                          have hH90 : e_Has hTy w88 := e_Has.upr j5 hw88 rfl (by omega)
                          have hT91 : e_Has mTy w88 := e_Has.ups j4 hw88 rfl
                          refine e_Ok.run (t' := (209, [(3, (0, 7)), (2, (0, w 341 y1)), (0, (1, 275)), (1, (0, y1))], [(1, 275), (1, 275)], w88)) 2 rfl ?_
                          refine e_Ok.getr (z := 342) rfl (el_o rfl) rfl rfl (by rw [← hw88]; exact (e_up_ne _ _ (Or.inr (by omega))).trans ((j3 275 91 no_bk_8).trans (e_Has.eq hT rfl))) (by omega) ?_
                          refine e_Ok.run (t' := (213, [(3, (0, 7)), (2, (0, w 341 y1)), (0, (1, 275)), (1, (0, y1))], [(0, y1), (1, 342), (1, 275)], w88)) 1 rfl ?_
                          refine e_Ok.ald (z := w 342 y1) rfl (el_o rfl) rfl (by omega) (by rw [← hw88]; exact (e_up_ne _ _ (Or.inl (by omega))).trans ((j3 342 y1 no_bk_2).trans rfl)) (by omega) ?_
                          refine e_Ok.putf rfl (el_o rfl) rfl rfl ?_
                          generalize hw92 : e_up w88 275 89 (w 342 y1) = w92
                          have f93 : e_fr mRsv w w92 := e_fr.up f89 hw92 (by first | exact Or.inr (Or.inr (Or.inr ⟨rfl, Or.inr rfl⟩)) | (unfold mRsv; omega))
                          have hH94 : e_Has hTy w92 := e_Has.upr hH90 hw92 rfl (by omega)
                          have hT95 : e_Has mTy w92 := e_Has.ups hT91 hw92 rfl
                          refine e_Ok.inc (z := y1 + 1) rfl rfl (by omega) (by omega) ?_
                          show e_Ok 20 elay ecode eI (d + 1) 356 (220, [(1, (0, y1 + 1)), (3, (0, 7)), (2, (0, w 341 y1)), (0, (1, 275))], [], w92) _
                          refine e_Ok.run (t' := (2, [(1, (0, y1 + 1)), (3, (0, 7)), (2, (0, w 341 y1)), (0, (1, 275))], [], w92)) 1 rfl ?_
                          refine e_Ok.sub eAlk (e_sub_of rfl ?_) (ih2 (y1 + 1) w92 ⟨f93, hT95, hH94, by omega, (Hid.mk (fun z => absurd (Eq.trans (Eq.symm (show w92 275 88 = 7 from (by rw [← hw92]; exact (e_up_ne _ _ (Or.inr (by omega))).trans (by rw [← hw88]; exact e_up_eq _ _ _ _)))) z) (by decide)))⟩ (by omega))
                          exact ⟨rfl, rfl, trivial⟩
                      · replace h86 : (7 : Int) = 0 := by have q : ¬ ((7 : Int) ≠ 0) := h86; omega
                        exfalso; omega
                    · replace h85 : (7 : Int) = 0 := by have q : ¬ ((7 : Int) ≠ 0) := h85; omega
                      exfalso; omega
                · replace h70 : (w 341 y1 : Int) = 0 := by have q : ¬ ((w 341 y1 : Int) ≠ 0) := h70; omega
                  refine e_Ok.run (t' := (60, [(3, (0, 0)), (2, (0, w 341 y1)), (0, (1, 275)), (1, (0, y1))], [(1, 275)], v1)) 1 rfl ?_
                  refine e_Ok.getr (z := 339) rfl (el_o rfl) rfl rfl ((j3 275 76 no_bk_11).trans (e_Has.eq hT rfl)) (by omega) ?_
                  refine e_Ok.run (t' := (64, [(3, (0, 0)), (2, (0, w 341 y1)), (0, (1, 275)), (1, (0, y1))], [(0, 4), (1, 339)], v1)) 1 rfl ?_
                  have h101 := (e_Has.get j4 (c := 339) (k := 4) (lo := 0) (hi := 32) rfl (by decide))
                  refine e_Ok.ald (z := v1 339 4) rfl (el_o rfl) rfl (by omega) rfl (by omega) ?_
                  refine e_Ok.run (t' := (76, [(3, (0, 0)), (2, (0, w 341 y1)), (0, (1, 275)), (1, (0, y1))], [(0, 32), (0, v1 339 4)], v1)) 2 rfl ?_
                  refine e_Ok.if2 rfl (fun h103 => ?_) (fun h103 => ?_)
                  · replace h103 : (v1 339 4 : Int) ≠ 32 := h103
                    refine e_Ok.run (t' := (87, [(3, (0, 0)), (2, (0, w 341 y1)), (0, (1, 275)), (1, (0, y1))], [(0, 0)], v1)) 3 rfl ?_
                    refine e_Ok.if1 rfl (fun h104 => ?_) (fun h104 => ?_)
                    · replace h104 : (0 : Int) ≠ 0 := h104
                      exfalso; omega
                    · replace h104 : (0 : Int) = 0 := by have q : ¬ ((0 : Int) ≠ 0) := h104; omega
                      refine e_Ok.run (t' := (91, [(3, (0, 0)), (2, (0, w 341 y1)), (0, (1, 275)), (1, (0, y1))], [(0, w 341 y1)], v1)) 1 rfl ?_
                      refine e_Ok.if1 rfl (fun h105 => ?_) (fun h105 => ?_)
                      · replace h105 : (w 341 y1 : Int) ≠ 0 := h105
                        exfalso; omega
                      · replace h105 : (w 341 y1 : Int) = 0 := by have q : ¬ ((w 341 y1 : Int) ≠ 0) := h105; omega
                        refine e_Ok.run (t' := (95, [(3, (0, 0)), (2, (0, w 341 y1)), (0, (1, 275)), (1, (0, y1))], [(1, 275)], v1)) 1 rfl ?_
                        refine e_Ok.getr (z := 339) rfl (el_o rfl) rfl rfl ((j3 275 76 no_bk_11).trans (e_Has.eq hT rfl)) (by omega) ?_
                        refine e_Ok.run (t' := (100, [(3, (0, 0)), (2, (0, w 341 y1)), (0, (1, 275)), (1, (0, y1))], [(0, 4), (1, 339), (0, 4), (1, 339)], v1)) 2 rfl ?_
                        refine e_Ok.ald (z := v1 339 4) rfl (el_o rfl) rfl (by omega) rfl (by omega) ?_
                        refine e_Ok.run (t' := (102, [(3, (0, 0)), (2, (0, w 341 y1)), (0, (1, 275)), (1, (0, y1))], [(0, 1), (0, v1 339 4), (0, 4), (1, 339)], v1)) 1 rfl ?_
                        refine e_Ok.add (z := v1 339 4 + 1) rfl (by omega) (by omega) ?_
                        refine e_Ok.ast rfl (el_o rfl) rfl rfl (by omega) ?_
                        generalize hw106 : e_up v1 339 4 (v1 339 4 + 1) = w106
                        have f107 : e_fr mRsv w w106 := e_fr.up j3 hw106 (by first | exact Or.inr (Or.inr (Or.inl ⟨Or.inr rfl, rfl⟩)) | (unfold mRsv; omega))
                        have hH108 : e_Has hTy w106 := e_Has.ups j5 hw106 rfl
                        have hT109 : e_Has mTy w106 := e_Has.upr j4 hw106 rfl (by omega)
                        refine e_Ok.run (t' := (199, [(3, (0, 0)), (2, (0, w 341 y1)), (0, (1, 275)), (1, (0, y1))], [(0, 0)], w106)) 2 rfl ?_
                        refine e_Ok.if1 rfl (fun h110 => ?_) (fun h110 => ?_)
                        · replace h110 : (0 : Int) = 0 := h110
                          refine e_Ok.inc (z := y1 + 1) rfl rfl (by omega) (by omega) ?_
                          show e_Ok 20 elay ecode eI (d + 1) 356 (220, [(1, (0, y1 + 1)), (3, (0, 0)), (2, (0, w 341 y1)), (0, (1, 275))], [], w106) _
                          refine e_Ok.run (t' := (2, [(1, (0, y1 + 1)), (3, (0, 0)), (2, (0, w 341 y1)), (0, (1, 275))], [], w106)) 1 rfl ?_
                          refine e_Ok.sub eAlk (e_sub_of rfl ?_) (ih2 (y1 + 1) w106 ⟨f107, hT109, hH108, by omega, (Hid.mk (fun z => RS.var hRS (by omega) (by omega) (show w106 339 4 = v1 339 4 + 1 from (by rw [← hw106]; exact e_up_eq _ _ _ _)) (by omega) (fun c k y => by rw [← hw106]; exact e_up_ne _ _ (Or.inl (by omega)))))⟩ (by omega))
                          exact ⟨rfl, rfl, trivial⟩
                        · replace h110 : (0 : Int) ≠ 0 := by have q : ¬ ((0 : Int) = 0) := h110; omega
                          exfalso; omega
                  · replace h103 : (v1 339 4 : Int) = 32 := by have q : ¬ ((v1 339 4 : Int) ≠ 32) := h103; omega
                    refine e_Ok.run (t' := (87, [(3, (0, 7)), (2, (0, w 341 y1)), (0, (1, 275)), (1, (0, y1))], [(0, 7)], v1)) 4 rfl ?_
                    refine e_Ok.if1 rfl (fun h111 => ?_) (fun h111 => ?_)
                    · replace h111 : (7 : Int) ≠ 0 := h111
                      refine e_Ok.run (t' := (108, [(3, (0, 7)), (2, (0, w 341 y1)), (0, (1, 275)), (1, (0, y1))], [(0, 7)], v1)) 1 rfl ?_
                      refine e_Ok.if1 rfl (fun h112 => ?_) (fun h112 => ?_)
                      · replace h112 : (7 : Int) ≠ 0 := h112
                        refine e_Ok.run (t' := (199, [(3, (0, 7)), (2, (0, w 341 y1)), (0, (1, 275)), (1, (0, y1))], [(0, 7)], v1)) 1 rfl ?_
                        refine e_Ok.if1 rfl (fun h113 => ?_) (fun h113 => ?_)
                        · replace h113 : (7 : Int) = 0 := h113
                          exfalso; omega
                        · replace h113 : (7 : Int) ≠ 0 := by have q : ¬ ((7 : Int) = 0) := h113; omega
                          refine e_Ok.run (t' := (204, [(3, (0, 7)), (2, (0, w 341 y1)), (0, (1, 275)), (1, (0, y1))], [(0, 7), (1, 275)], v1)) 2 rfl ?_
                          refine e_Ok.putf rfl (el_o rfl) rfl rfl ?_
                          generalize hw114 : e_up v1 275 88 7 = w114
                          have f115 : e_fr mRsv w w114 := e_fr.up j3 hw114 (by first | exact Or.inr (Or.inr (Or.inr ⟨rfl, Or.inl rfl⟩)) | (unfold mRsv; omega))
                          have hH116 : e_Has hTy w114 := e_Has.upr j5 hw114 rfl (by omega)
                          have hT117 : e_Has mTy w114 := e_Has.ups j4 hw114 rfl
                          refine e_Ok.run (t' := (209, [(3, (0, 7)), (2, (0, w 341 y1)), (0, (1, 275)), (1, (0, y1))], [(1, 275), (1, 275)], w114)) 2 rfl ?_
                          refine e_Ok.getr (z := 342) rfl (el_o rfl) rfl rfl (by rw [← hw114]; exact (e_up_ne _ _ (Or.inr (by omega))).trans ((j3 275 91 no_bk_8).trans (e_Has.eq hT rfl))) (by omega) ?_
                          refine e_Ok.run (t' := (213, [(3, (0, 7)), (2, (0, w 341 y1)), (0, (1, 275)), (1, (0, y1))], [(0, y1), (1, 342), (1, 275)], w114)) 1 rfl ?_
                          refine e_Ok.ald (z := w 342 y1) rfl (el_o rfl) rfl (by omega) (by rw [← hw114]; exact (e_up_ne _ _ (Or.inl (by omega))).trans ((j3 342 y1 no_bk_2).trans rfl)) (by omega) ?_
                          refine e_Ok.putf rfl (el_o rfl) rfl rfl ?_
                          generalize hw118 : e_up w114 275 89 (w 342 y1) = w118
                          have f119 : e_fr mRsv w w118 := e_fr.up f115 hw118 (by first | exact Or.inr (Or.inr (Or.inr ⟨rfl, Or.inr rfl⟩)) | (unfold mRsv; omega))
                          have hH120 : e_Has hTy w118 := e_Has.upr hH116 hw118 rfl (by omega)
                          have hT121 : e_Has mTy w118 := e_Has.ups hT117 hw118 rfl
                          refine e_Ok.inc (z := y1 + 1) rfl rfl (by omega) (by omega) ?_
                          show e_Ok 20 elay ecode eI (d + 1) 356 (220, [(1, (0, y1 + 1)), (3, (0, 7)), (2, (0, w 341 y1)), (0, (1, 275))], [], w118) _
                          refine e_Ok.run (t' := (2, [(1, (0, y1 + 1)), (3, (0, 7)), (2, (0, w 341 y1)), (0, (1, 275))], [], w118)) 1 rfl ?_
                          refine e_Ok.sub eAlk (e_sub_of rfl ?_) (ih2 (y1 + 1) w118 ⟨f119, hT121, hH120, by omega, (Hid.mk (fun z => absurd (Eq.trans (Eq.symm (show w118 275 88 = 7 from (by rw [← hw118]; exact (e_up_ne _ _ (Or.inr (by omega))).trans (by rw [← hw114]; exact e_up_eq _ _ _ _)))) z) (by decide)))⟩ (by omega))
                          exact ⟨rfl, rfl, trivial⟩
                      · replace h112 : (7 : Int) = 0 := by have q : ¬ ((7 : Int) ≠ 0) := h112; omega
                        exfalso; omega
                    · replace h111 : (7 : Int) = 0 := by have q : ¬ ((7 : Int) ≠ 0) := h111; omega
                      exfalso; omega
              · replace h69 : (z67 : Int) ≥ 0 := by have q : ¬ ((z67 : Int) < 0) := h69; omega
                refine e_Ok.run (t' := (87, [(3, (0, 4)), (2, (0, w 341 y1)), (0, (1, 275)), (1, (0, y1))], [(0, 4)], v1)) 4 rfl ?_
                refine e_Ok.if1 rfl (fun h122 => ?_) (fun h122 => ?_)
                · replace h122 : (4 : Int) ≠ 0 := h122
                  refine e_Ok.run (t' := (108, [(3, (0, 4)), (2, (0, w 341 y1)), (0, (1, 275)), (1, (0, y1))], [(0, 4)], v1)) 1 rfl ?_
                  refine e_Ok.if1 rfl (fun h123 => ?_) (fun h123 => ?_)
                  · replace h123 : (4 : Int) ≠ 0 := h123
                    refine e_Ok.run (t' := (199, [(3, (0, 4)), (2, (0, w 341 y1)), (0, (1, 275)), (1, (0, y1))], [(0, 4)], v1)) 1 rfl ?_
                    refine e_Ok.if1 rfl (fun h124 => ?_) (fun h124 => ?_)
                    · replace h124 : (4 : Int) = 0 := h124
                      exfalso; omega
                    · replace h124 : (4 : Int) ≠ 0 := by have q : ¬ ((4 : Int) = 0) := h124; omega
                      refine e_Ok.run (t' := (204, [(3, (0, 4)), (2, (0, w 341 y1)), (0, (1, 275)), (1, (0, y1))], [(0, 4), (1, 275)], v1)) 2 rfl ?_
                      refine e_Ok.putf rfl (el_o rfl) rfl rfl ?_
                      generalize hw125 : e_up v1 275 88 4 = w125
                      have f126 : e_fr mRsv w w125 := e_fr.up j3 hw125 (by first | exact Or.inr (Or.inr (Or.inr ⟨rfl, Or.inl rfl⟩)) | (unfold mRsv; omega))
                      have hH127 : e_Has hTy w125 := e_Has.upr j5 hw125 rfl (by omega)
                      have hT128 : e_Has mTy w125 := e_Has.ups j4 hw125 rfl
                      refine e_Ok.run (t' := (209, [(3, (0, 4)), (2, (0, w 341 y1)), (0, (1, 275)), (1, (0, y1))], [(1, 275), (1, 275)], w125)) 2 rfl ?_
                      refine e_Ok.getr (z := 342) rfl (el_o rfl) rfl rfl (by rw [← hw125]; exact (e_up_ne _ _ (Or.inr (by omega))).trans ((j3 275 91 no_bk_8).trans (e_Has.eq hT rfl))) (by omega) ?_
                      refine e_Ok.run (t' := (213, [(3, (0, 4)), (2, (0, w 341 y1)), (0, (1, 275)), (1, (0, y1))], [(0, y1), (1, 342), (1, 275)], w125)) 1 rfl ?_
                      refine e_Ok.ald (z := w 342 y1) rfl (el_o rfl) rfl (by omega) (by rw [← hw125]; exact (e_up_ne _ _ (Or.inl (by omega))).trans ((j3 342 y1 no_bk_2).trans rfl)) (by omega) ?_
                      refine e_Ok.putf rfl (el_o rfl) rfl rfl ?_
                      generalize hw129 : e_up w125 275 89 (w 342 y1) = w129
                      have f130 : e_fr mRsv w w129 := e_fr.up f126 hw129 (by first | exact Or.inr (Or.inr (Or.inr ⟨rfl, Or.inr rfl⟩)) | (unfold mRsv; omega))
                      have hH131 : e_Has hTy w129 := e_Has.upr hH127 hw129 rfl (by omega)
                      have hT132 : e_Has mTy w129 := e_Has.ups hT128 hw129 rfl
                      refine e_Ok.inc (z := y1 + 1) rfl rfl (by omega) (by omega) ?_
                      show e_Ok 20 elay ecode eI (d + 1) 356 (220, [(1, (0, y1 + 1)), (3, (0, 4)), (2, (0, w 341 y1)), (0, (1, 275))], [], w129) _
                      refine e_Ok.run (t' := (2, [(1, (0, y1 + 1)), (3, (0, 4)), (2, (0, w 341 y1)), (0, (1, 275))], [], w129)) 1 rfl ?_
                      refine e_Ok.sub eAlk (e_sub_of rfl ?_) (ih2 (y1 + 1) w129 ⟨f130, hT132, hH131, by omega, (Hid.mk (fun z => absurd (Eq.trans (Eq.symm (show w129 275 88 = 4 from (by rw [← hw129]; exact (e_up_ne _ _ (Or.inr (by omega))).trans (by rw [← hw125]; exact e_up_eq _ _ _ _)))) z) (by decide)))⟩ (by omega))
                      exact ⟨rfl, rfl, trivial⟩
                  · replace h123 : (4 : Int) = 0 := by have q : ¬ ((4 : Int) ≠ 0) := h123; omega
                    exfalso; omega
                · replace h122 : (4 : Int) = 0 := by have q : ¬ ((4 : Int) ≠ 0) := h122; omega
                  exfalso; omega
  refine e_Ok.sub eAlk (e_sub_of rfl ?_) (hL1 (4100 + 1 : Int).toNat 0 w ⟨(e_fr.refl w), hT, hH, by omega, (Hid.mk (fun _ => RS.zero n mm h9 h8))⟩ (by omega))
  exact ⟨rfl, rfl, trivial⟩
end
end
-- part bl
section
noncomputable section
/-! a program is read: the programs of the other arms stay -/
/-- the cells of the arm a's program -/
def prS (w w' : eW) (a : Int) : Prop := (∀ c p, 328 ≤ c → c ≤ 330 → 0 ≤ p → p < 10000 → w' c (10000 * a + p) = w c (10000 * a + p)) ∧ (∀ c t, 331 ≤ c → c ≤ 336 → 0 ≤ t → t < 900 → w' c (900 * a + t) = w c (900 * a + t)) ∧ (∀ q, 0 ≤ q → q < 32 → w' 337 (32 * a + q) = w 337 (32 * a + q)) ∧ w' 338 a = w 338 a
section
variable {w w' : eW} {a n nt nw : Int} {dl sg pi en : Int → Int} {an br : Int → Int → Prop}
theorem tgt.ps (e : prS w w' a) (hn : n ≤ 10000) {q r : Int} (h : tgt w a n dl sg q r) : tgt w' a n dl sg q r := ⟨h.1, h.2.1, h.2.2.1, h.2.2.2.1, by rw [e.1 330 q (by decide) (by decide) h.1 (by have := h.2.1; omega)]; exact h.2.2.2.2⟩
theorem insOk.ps (e : prS w w' a) (hn : n ≤ 10000) (hw : nw ≤ 900) (ht : nt ≤ 900) {p : Int} (h1 : 0 ≤ p) (h2 : p < n) (h : insOk w a n nt nw dl sg en br p) : insOk w' a n nt nw dl sg en br p := by
  have e8 := e.1 328 p (by decide) (by decide) h1 (by omega)
  have e9 := e.1 329 p (by decide) (by decide) h1 (by omega)
  have e0 := e.1 330 p (by decide) (by decide) h1 (by omega)
  have r1 : p + 1 < n → w' 330 (10000 * a + p + 1) = w 330 (10000 * a + p + 1) := fun z => by
    rw [show 10000 * a + p + 1 = 10000 * a + (p + 1) by omega]
    exact e.1 330 (p + 1) (by decide) (by decide) (by omega) (by omega)
  have ft : iFT w a n p → iFT w' a n p := fun z => ⟨z.1, by rw [r1 z.1, e0]; exact z.2⟩
  have ss : iS w a n dl sg p → iS w' a n dl sg p := fun z => ⟨ft z.1, z.2⟩
  have jt : ∀ c x, 328 ≤ c → c ≤ 330 → 0 ≤ x → x < n → w' c (10000 * a + x) = w c (10000 * a + x) := fun c x c1 c2 x1 x2 => e.1 c x c1 c2 x1 (by omega)
  obtain ⟨i0, i1, i2, i3, i4, i5, i6, i7, i8, i9, i10, i11, i12, i13, i14, i15, i16, i17, i18, i19⟩ := h
  unfold insOk
  rw [e8, e9, e0, e.2.2.2]
  refine ⟨i0, fun z => ⟨(i1 z).1, (i1 z).2.1, ft (i1 z).2.2⟩, i2, i3, i4, fun z => ?_, i6, fun z => ?_, fun z => ss (i8 z), i9, i10, i11, fun z => ?_, i13, i14, i15, fun z => ?_, fun z => ?_, fun z => ?_, i19⟩
  · obtain ⟨a1, a2, a3, a4, a5, a6, a7⟩ := i5 z
    exact ⟨a1, a2, a3, a4, a5, a6, by rw [jt 330 _ (by decide) (by decide) (Int.le_trans h1 (Int.le_of_lt a3)) a4]; exact a7⟩
  · obtain ⟨a1, a2, a3, a4, a5⟩ := i7 z
    refine ⟨a1, a2, a3, a4, ?_⟩
    rw [r1 a3]
    refine a5.imp id (fun ⟨t, t1, t2, t3, t4⟩ => ⟨t, t1, t2, t3, ?_⟩)
    rw [e.2.1 331 t (by decide) (by decide) t1 (Int.lt_of_lt_of_le t2 ht)]
    exact t4
  · obtain ⟨a1, a2, a3, a4⟩ := i12 z
    exact ⟨a1, a2, a3, by rw [jt 330 _ (by decide) (by decide) a1 a2]; exact a4⟩
  · obtain ⟨a1, a2, a3, a4⟩ := i16 z
    exact ⟨a1, a2, a3, by rw [e.2.1 336 _ (by decide) (by decide) a1 (Int.lt_of_lt_of_le a2 hw)]; exact a4⟩
  · obtain ⟨a1, a2, a3, a4, a5, a6⟩ := i17 z
    exact ⟨ss a1, a2, a3, a4, a5, by rw [jt 330 _ (by decide) (by decide) (Int.le_trans h1 (Int.le_of_lt a2)) a3]; exact a6⟩
  · obtain ⟨a1, a2, a3, a4, a5, a6, a7⟩ := i18 z
    exact ⟨a1, a2, a3, a4, a5, by rw [jt 330 _ (by decide) (by decide) a2 a3]; exact a6, a7.imp id (fun y => by rw [jt 328 _ (by decide) (by decide) a2 a3]; exact y)⟩
theorem tryOk.ps (e : prS w w' a) (hn : n ≤ 10000) {t : Int} (h1 : 0 ≤ t) (h2 : t < 900) (h : tryOk w a n dl sg pi en an t) : tryOk w' a n dl sg pi en an t := by
  have x : ∀ c, 331 ≤ c → c ≤ 336 → w' c (900 * a + t) = w c (900 * a + t) := fun c c1 c2 => e.2.1 c t c1 c2 h1 h2
  obtain ⟨q1, q2, q3, q4, q5, q6, q7⟩ := h
  unfold tryOk
  rw [x 331 (by decide) (by decide), x 332 (by decide) (by decide), x 333 (by decide) (by decide), x 334 (by decide) (by decide)]
  exact ⟨q1, q2, q3.imp id (fun y => ⟨y.1.ps e hn, y.2⟩), q4.imp id (fun y => ⟨y.1.ps e hn, y.2⟩), ⟨q5.1.ps e hn, q5.2⟩, q6, q7⟩
theorem cOk.ps (e : prS w w' a) (hr : w 338 a ≤ 32) (hb : ∀ r v, br r v → 0 ≤ v ∧ v < nw) (h : cOk w a n nt nw dl sg pi en an br) : cOk w' a n nt nw dl sg pi en an br := by
  obtain ⟨h1, h2, h3, h4, h5, h6, h7⟩ := h
  refine ⟨h1, fun p q1 q2 => (h2 p q1 q2).ps e h1.2.1 h1.2.2.2.2.2 h1.2.2.2.1 q1 q2, fun t q1 q2 => (h3 t q1 q2).ps e h1.2.1 q1 (by omega), h4, fun v q1 q2 => ?_, fun r v q1 q2 q3 => ?_, fun q q1 q2 => ?_⟩
  · rw [e.2.1 335 v (by decide) (by decide) q1 (by omega), e.2.1 336 v (by decide) (by decide) q1 (by omega)]
    exact ⟨(h5 v q1 q2).1, (h5 v q1 q2).2.ps e h1.2.1⟩
  · have hv := hb r v q1
    rw [e.2.1 335 v (by decide) (by decide) hv.1 (by omega), e.2.1 336 v (by decide) (by decide) hv.1 (by omega)]
    refine (h6 r v q1 q2 q3).imp id (fun ⟨y1, y2, y3⟩ => ?_)
    rw [e.2.1 334 (r / 3) (by decide) (by decide) (by omega) (by omega), e.2.1 331 (r / 3) (by decide) (by decide) (by omega) (by omega)]
    exact ⟨y1, y2, y3⟩
  · rw [e.2.2.2] at q2
    rw [e.2.2.1 q q1 (by omega)]
    exact (h7 q q1 q2).ps e h1.2.1
end
/-- a program without an instruction -/
theorem cOk.none {w : eW} {a : Int} (h : w 338 a ≤ 0) : cOk w a 0 0 0 (fun _ => 0) (fun _ => 0) (fun _ => 0) (fun _ => 0) (fun r q => q = r) (fun _ _ => False) :=
  ⟨by decide, fun p h1 h2 => by omega, fun t h1 h2 => by omega, ⟨rfl, fun r _ _ => (show (0 : Int) ≤ 0 ∧ (0 : Int) ≤ 30 from by decide), fun _ => rfl, fun q g => g, fun r q g g2 => by omega, fun r q _ _ _ => Int.le_refl 0⟩, fun v h1 h2 => by omega, fun r v g => g.elim, fun q h1 h2 => by omega⟩
end
end
-- part bm
section
noncomputable section
/-! the program is copied to its arm -/
def cp3 (X v : eW) (a y : Int) : Prop := (∀ c k, ¬ ((328 ≤ c ∧ c ≤ 330) ∧ 10000 * a ≤ k ∧ k < 10000 * a + 10000) → v c k = X c k) ∧ ∀ c k, 328 ≤ c → c ≤ 330 → 0 ≤ k → k < y → v c (10000 * a + k) = X c (k + 40000)
theorem cp3.zero (X : eW) (a : Int) : cp3 X X a 0 := ⟨fun _ _ _ => rfl, fun c k _ _ h1 h2 => by omega⟩
theorem cp3.next {X v v1 v2 v3 : eW} {a y : Int} (h : cp3 X v a y) (ha : 0 ≤ a ∧ a ≤ 3) (hy : 0 ≤ y ∧ y < 10000) (h1 : e_up v 328 (10000 * a + y) (v 328 (y + 40000)) = v1) (h2 : e_up v1 329 (10000 * a + y) (v 329 (y + 40000)) = v2) (h3 : e_up v2 330 (10000 * a + y) (v 330 (y + 40000)) = v3) : cp3 X v3 a (y + 1) := by
  have o : ∀ c k, ¬ ((328 ≤ c ∧ c ≤ 330) ∧ k = 10000 * a + y) → v3 c k = v c k := fun c k g => by
    rw [← h3, e_up_ne _ _ (by omega), ← h2, e_up_ne _ _ (by omega), ← h1]
    exact e_up_ne _ _ (by omega)
  have s8 : v3 328 (10000 * a + y) = v 328 (y + 40000) := by
    rw [← h3, e_up_ne _ _ (Or.inl (by decide)), ← h2, e_up_ne _ _ (Or.inl (by decide)), ← h1]
    exact e_up_eq _ _ _ _
  have s9 : v3 329 (10000 * a + y) = v 329 (y + 40000) := by
    rw [← h3, e_up_ne _ _ (Or.inl (by decide)), ← h2]
    exact e_up_eq _ _ _ _
  have s0 : v3 330 (10000 * a + y) = v 330 (y + 40000) := by
    rw [← h3]
    exact e_up_eq _ _ _ _
  refine ⟨fun c k g => (o c k (by omega)).trans (h.1 c k g), fun c k c1 c2 k1 k2 => ?_⟩
  by_cases e : k = y
  · subst e
    have hs : v c (k + 40000) = X c (k + 40000) := h.1 c _ (by omega)
    obtain rfl | rfl | rfl : c = 328 ∨ c = 329 ∨ c = 330 := by omega
    · exact s8.trans hs
    · exact s9.trans hs
    · exact s0.trans hs
  · rw [o c _ (by omega)]
    exact h.2 c k c1 c2 k1 (by omega)
def cp6 (X v : eW) (a y : Int) : Prop := (∀ c k, ¬ ((331 ≤ c ∧ c ≤ 336) ∧ 900 * a ≤ k ∧ k < 900 * a + 900) → v c k = X c k) ∧ ∀ c k, 331 ≤ c → c ≤ 336 → 0 ≤ k → k < y → v c (900 * a + k) = X c (k + 3600)
theorem cp6.zero (X : eW) (a : Int) : cp6 X X a 0 := ⟨fun _ _ _ => rfl, fun c k _ _ h1 h2 => by omega⟩
theorem cp6.next {X v v1 v2 v3 v4 v5 v6 : eW} {a y : Int} (h : cp6 X v a y) (ha : 0 ≤ a ∧ a ≤ 3) (hy : 0 ≤ y ∧ y < 900) (h1 : e_up v 331 (900 * a + y) (v 331 (y + 3600)) = v1) (h2 : e_up v1 332 (900 * a + y) (v 332 (y + 3600)) = v2) (h3 : e_up v2 333 (900 * a + y) (v 333 (y + 3600)) = v3) (h4 : e_up v3 334 (900 * a + y) (v 334 (y + 3600)) = v4) (h5 : e_up v4 335 (900 * a + y) (v 335 (y + 3600)) = v5) (h6 : e_up v5 336 (900 * a + y) (v 336 (y + 3600)) = v6) : cp6 X v6 a (y + 1) := by
  have o1 : ∀ c k, ¬ (c = 331 ∧ k = 900 * a + y) → v1 c k = v c k := fun c k g => by rw [← h1]; exact e_up_ne _ _ (by omega)
  have o2 : ∀ c k, ¬ (c = 332 ∧ k = 900 * a + y) → v2 c k = v1 c k := fun c k g => by rw [← h2]; exact e_up_ne _ _ (by omega)
  have o3 : ∀ c k, ¬ (c = 333 ∧ k = 900 * a + y) → v3 c k = v2 c k := fun c k g => by rw [← h3]; exact e_up_ne _ _ (by omega)
  have o4 : ∀ c k, ¬ (c = 334 ∧ k = 900 * a + y) → v4 c k = v3 c k := fun c k g => by rw [← h4]; exact e_up_ne _ _ (by omega)
  have o5 : ∀ c k, ¬ (c = 335 ∧ k = 900 * a + y) → v5 c k = v4 c k := fun c k g => by rw [← h5]; exact e_up_ne _ _ (by omega)
  have o6 : ∀ c k, ¬ (c = 336 ∧ k = 900 * a + y) → v6 c k = v5 c k := fun c k g => by rw [← h6]; exact e_up_ne _ _ (by omega)
  have s1 : v1 331 (900 * a + y) = v 331 (y + 3600) := by rw [← h1]; exact e_up_eq _ _ _ _
  have s2 : v2 332 (900 * a + y) = v 332 (y + 3600) := by rw [← h2]; exact e_up_eq _ _ _ _
  have s3 : v3 333 (900 * a + y) = v 333 (y + 3600) := by rw [← h3]; exact e_up_eq _ _ _ _
  have s4 : v4 334 (900 * a + y) = v 334 (y + 3600) := by rw [← h4]; exact e_up_eq _ _ _ _
  have s5 : v5 335 (900 * a + y) = v 335 (y + 3600) := by rw [← h5]; exact e_up_eq _ _ _ _
  have s6 : v6 336 (900 * a + y) = v 336 (y + 3600) := by rw [← h6]; exact e_up_eq _ _ _ _
  have o : ∀ c k, ¬ ((331 ≤ c ∧ c ≤ 336) ∧ k = 900 * a + y) → v6 c k = v c k := fun c k g => by rw [o6 c k (by omega), o5 c k (by omega), o4 c k (by omega), o3 c k (by omega), o2 c k (by omega), o1 c k (by omega)]
  refine ⟨fun c k g => (o c k (by omega)).trans (h.1 c k g), fun c k c1 c2 k1 k2 => ?_⟩
  by_cases e : k = y
  · subst e
    have hs : v c (k + 3600) = X c (k + 3600) := h.1 c _ (by omega)
    obtain rfl | rfl | rfl | rfl | rfl | rfl : c = 331 ∨ c = 332 ∨ c = 333 ∨ c = 334 ∨ c = 335 ∨ c = 336 := by omega
    · rw [o6 _ _ (by omega), o5 _ _ (by omega), o4 _ _ (by omega), o3 _ _ (by omega), o2 _ _ (by omega)]; exact s1.trans hs
    · rw [o6 _ _ (by omega), o5 _ _ (by omega), o4 _ _ (by omega), o3 _ _ (by omega)]; exact s2.trans hs
    · rw [o6 _ _ (by omega), o5 _ _ (by omega), o4 _ _ (by omega)]; exact s3.trans hs
    · rw [o6 _ _ (by omega), o5 _ _ (by omega)]; exact s4.trans hs
    · rw [o6 _ _ (by omega)]; exact s5.trans hs
    · exact s6.trans hs
  · rw [o c _ (by omega)]
    exact h.2 c k c1 c2 k1 (by omega)
def cp2 (X v : eW) (a y : Int) : Prop := (∀ c k, ¬ ((c = 337 ∧ 32 * a ≤ k ∧ k < 32 * a + 32) ∨ (c = 276 ∧ 32 * a + 20932 ≤ k ∧ k < 32 * a + 20964)) → v c k = X c k) ∧ ∀ k, 0 ≤ k → k < y → v 337 (32 * a + k) = X 337 (k + 128)
theorem cp2.zero (X : eW) (a : Int) : cp2 X X a 0 := ⟨fun _ _ _ => rfl, fun k h1 h2 => by omega⟩
theorem cp2.next {X v v1 v2 : eW} {a y : Int} (h : cp2 X v a y) (ha : 0 ≤ a ∧ a ≤ 3) (hy : 0 ≤ y ∧ y < 32) (h1 : e_up v 337 (32 * a + y) (v 337 (y + 128)) = v1) (h2 : e_up v1 276 (32 * a + y + 20932) 0 = v2) : cp2 X v2 a (y + 1) := by
  have o1 : ∀ c k, ¬ (c = 337 ∧ k = 32 * a + y) → v1 c k = v c k := fun c k g => by rw [← h1]; exact e_up_ne _ _ (by omega)
  have o2 : ∀ c k, ¬ (c = 276 ∧ k = 32 * a + y + 20932) → v2 c k = v1 c k := fun c k g => by rw [← h2]; exact e_up_ne _ _ (by omega)
  have s1 : v1 337 (32 * a + y) = v 337 (y + 128) := by rw [← h1]; exact e_up_eq _ _ _ _
  refine ⟨fun c k g => ?_, fun k k1 k2 => ?_⟩
  · rw [o2 c k (by omega), o1 c k (by omega)]
    exact h.1 c k g
  · rw [o2 _ _ (by omega)]
    by_cases e : k = y
    · subst e
      rw [s1]
      exact h.1 337 _ (by omega)
    · rw [o1 _ _ (by omega)]
      exact h.2 k k1 (by omega)
/-- what reading a program changes before it is copied -/
def mPs (c k : Int) : Prop := ((328 ≤ c ∧ c ≤ 330) ∧ 40000 ≤ k) ∨ ((331 ≤ c ∧ c ≤ 336) ∧ 3600 ≤ k) ∨ (c = 337 ∧ 128 ≤ k) ∨ ((c = 338 ∨ c = 339) ∧ k = 4) ∨ (341 ≤ c ∧ c ≤ 344) ∨ (c = 275 ∧ (k = 9 ∨ (78 ≤ k ∧ k ≤ 89) ∨ k = 94 ∨ k = 95))
/-- .. and all in all -/
def mPg (a c k : Int) : Prop := mPs c k ∨ ((328 ≤ c ∧ c ≤ 330) ∧ 10000 * a ≤ k ∧ k < 10000 * a + 10000) ∨ ((331 ≤ c ∧ c ≤ 336) ∧ 900 * a ≤ k ∧ k < 900 * a + 900) ∨ (c = 337 ∧ 32 * a ≤ k ∧ k < 32 * a + 32) ∨ (c = 276 ∧ 32 * a + 20932 ≤ k ∧ k < 32 * a + 20964) ∨ ((c = 338 ∨ c = 339 ∨ c = 340) ∧ k = a)
theorem mPs.ps {w w' : eW} {a : Int} (ha : 0 ≤ a ∧ a ≤ 3) (h : e_fr mPs w w') : prS w w' a :=
  ⟨fun c p c1 c2 p1 p2 => h c _ (by unfold mPs; omega), fun c t c1 c2 t1 t2 => h c _ (by unfold mPs; omega), fun q q1 q2 => h 337 _ (by unfold mPs; omega), h 338 _ (by unfold mPs; omega)⟩
theorem mPg.ps {w w' : eW} {a b : Int} (ha : 0 ≤ a ∧ a ≤ 3) (hb : 0 ≤ b ∧ b ≤ 3) (hn : a ≠ b) (h : e_fr (mPg a) w w') : prS w w' b :=
  ⟨fun c p c1 c2 p1 p2 => h c _ (by unfold mPg mPs; omega), fun c t c1 c2 t1 t2 => h c _ (by unfold mPg mPs; omega), fun q q1 q2 => h 337 _ (by unfold mPg mPs; omega), h 338 _ (by unfold mPg mPs; omega)⟩
/-- what the arm's program is then -/
theorem no_bm_0 {k : Int} : ¬ mRsv 328 k := by unfold mRsv; omega
theorem no_bm_1 {k : Int} : ¬ mRsv 330 k := by unfold mRsv; omega
theorem prog_ok {w v X v1 v2 v3 w1 w2 w3 : eW} {N a n mm nt nw R : Int} (hG : GX w N n mm nt nw (fun _ => False) (-1) (fun _ => False) 0) (hR : RS w v n mm mm) (hF : e_fr mRsv w v) (hX : ∀ c k, ¬ (c = 275 ∧ k = 9) → X c k = v c k) (ha : 0 ≤ a ∧ a ≤ 3) (hn : 0 ≤ n ∧ n ≤ 9900) (hnt : nt ≤ 900) (hnw : nw ≤ 900) (c3 : cp3 X v1 a n) (c6 : cp6 v1 v2 a 900) (c2 : cp2 v2 v3 a 32) (h1 : e_up v3 338 a R = w1) (hRv : R = v3 338 4) (h2 : ∃ z, e_up w1 339 a z = w2) (h3 : e_up w2 340 a 1 = w3) :
    ∃ (n' nt' nw' : Int) (dl sg pi en : Int → Int) (an br : Int → Int → Prop), cOk w3 a n' nt' nw' dl sg pi en an br ∧ ∀ r q, br r q → 0 ≤ q ∧ q < nw' := by
  obtain ⟨z, h2⟩ := h2
  have o3 : ∀ c k, c ≠ 338 → c ≠ 339 → c ≠ 340 → w3 c k = v3 c k := fun c k g1 g2 g3 => by
    rw [← h3, e_up_ne _ _ (Or.inl g3), ← h2, e_up_ne _ _ (Or.inl g2), ← h1]
    exact e_up_ne _ _ (Or.inl g1)
  have e38 : w3 338 a = v 338 4 := by
    rw [← h3, e_up_ne _ _ (Or.inl (by decide)), ← h2, e_up_ne _ _ (Or.inl (by decide)), ← h1, e_up_eq, hRv, c2.1 338 4 (by omega), c6.1 338 4 (by omega), c3.1 338 4 (by omega)]
    exact hX 338 4 (by omega)
  have f8 : ∀ c p, 328 ≤ c → c ≤ 330 → 0 ≤ p → p < n → w3 c (10000 * a + p) = v c (p + 40000) := fun c p c1 c2' p1 p2 => by
    rw [o3 c _ (by omega) (by omega) (by omega), c2.1 c _ (by omega), c6.1 c _ (by omega), c3.2 c p c1 c2' p1 p2]
    exact hX c _ (by omega)
  have ft : ∀ c t, 331 ≤ c → c ≤ 336 → 0 ≤ t → t < 900 → w3 c (900 * a + t) = w c (t + 3600) := fun c t c1 c2' t1 t2 => by
    rw [o3 c _ (by omega) (by omega) (by omega), c2.1 c _ (by omega), c6.2 c t c1 c2' t1 t2, c3.1 c _ (by omega), hX c _ (by omega)]
    exact hF c _ (by unfold mRsv; omega)
  have f7 : ∀ q, 0 ≤ q → q < 32 → w3 337 (32 * a + q) = v 337 (q + 128) := fun q q1 q2 => by
    rw [o3 337 _ (by omega) (by omega) (by omega), c2.2 q q1 q2, c6.1 337 _ (by omega), c3.1 337 _ (by omega)]
    exact hX 337 _ (by omega)
  have hr := hR.2.1
  rcases hG with ⟨g1, g2, g3, g4⟩ | hG
  · -- no routine
    refine ⟨0, 0, 0, _, _, _, _, _, _, cOk.none ?_, fun r q g => g.elim⟩
    have hc : cntK w 1 mm = 0 := by
      have hmm := g4.1.1.2.2.2.2.2.1.2.2.2.2
      have key : ∀ j : Nat, (j : Int) ≤ mm → cntK w 1 (j : Int) = 0 := fun j => by
        induction j with
        | zero => intro _; exact cntK_zero w 1
        | succ j ih =>
          intro hj
          have e0 := g4.2 (j : Int) (by omega) (by omega)
          rw [show ((j + 1 : Nat) : Int) = (j : Int) + 1 by omega, cntK_no (by omega) (by omega)]
          exact ih (by omega)
      have := key mm.toNat (by omega)
      rw [show ((mm.toNat : Nat) : Int) = mm by omega] at this
      exact this
    omega
  · have hT : GT w N n mm nt nw := hG
    have hc : cpy w w3 a n := ⟨fun p p1 p2 => ⟨by rw [f8 328 p (by decide) (by decide) p1 p2]; exact hF 328 _ no_bm_0, by rw [f8 330 p (by decide) (by decide) p1 p2]; exact hF 330 _ no_bm_1⟩, ft⟩
    have hA : cpyA w w3 a n := fun p p1 p2 => by
      have q := hR.all hG.1.1.2 p1 p2
      rw [f8 329 p (by decide) (by decide) p1 p2, e38]
      exact ⟨q.1, q.2, fun g => hR.2.2.2.2.2 p p1 p2 g⟩
    refine ⟨n, nt, nw, _, _, _, _, _, _, hT.cOk hc hA hR.2.2.1 (by omega) hnt hnw (fun q q1 q2 => ?_), fun r q g => g.1⟩
    rw [e38] at q2
    obtain ⟨m, m1, m2, m3, m4⟩ := hR.2.2.2.2.1 q q1 (by omega)
    rw [f7 q q1 (by omega), m4]
    exact hG.1.2.2.2.2.1 m m1 m2 m3
end
end
-- part bn
section
noncomputable section
theorem c_356_x {d : Nat} (hd : 25 ≤ d) {w : eW} (hT : e_Has mTy w) (hH : e_Has hTy w) {N n mm : Int} (hN : N ≤ 4000) (hm : w 275 94 = mm) (hmm : 0 ≤ mm ∧ mm ≤ 4099) (hnr : 0 ≤ n ∧ n ≤ 9900) (hp : w 275 88 = 0 → NM w N n mm ∧ nK w n mm (fun _ => False)) (h9 : w 339 4 = 0) (h8 : w 338 4 = 0) : e_Ok 20 elay ecode eI d 356 (0, [(0, (1, 275))], [], w) (fun r w' => r = [] ∧ e_fr mRsv w w' ∧ e_Has mTy w' ∧ e_Has hTy w' ∧ ((w 275 88 ≠ 0 ∧ w = w') ∨ (w 275 88 = 0 ∧ (w' 275 88 = 0 → RS w w' n mm mm)))) := by
  by_cases c : w 275 88 = 0
  · exact (c_356 hd hT hH hN hm hmm hnr c (hp c).1 (hp c).2 h9 h8).imp (fun r w' q => ⟨q.1, q.2.1, q.2.2.1, q.2.2.2.1, Or.inr ⟨c, q.2.2.2.2⟩⟩)
  · exact (c_356_0 (by omega) hT hH hN hm hmm hnr c).imp (fun r w' q => by obtain ⟨q1, rfl⟩ := q; exact ⟨q1, e_fr.refl w, hT, hH, Or.inl ⟨c, rfl⟩⟩)
theorem no_bn_0 {n : Int} {nt : Int} {nw : Int} {m : Int} {k : Int} : ¬ mStm n nt nw m 338 k := by unfold mStm; omega
theorem no_bn_1 {n : Int} {nt : Int} {nw : Int} {m : Int} {k : Int} : ¬ mStm n nt nw m 339 k := by unfold mStm; omega
theorem no_bn_2 : ¬ mRsv 275 78 := by unfold mRsv; omega
set_option maxHeartbeats 4000000 in
theorem c_357 {d : Nat} (hd : 424 ≤ d) {w : eW} (hT : e_Has mTy w) (hH : e_Has hTy w) {p1 : Int} (g1 : -2147483648 ≤ p1 ∧ p1 ≤ 2147483647) : e_Ok 20 elay ecode eI d 357 (0, [(0, (1, 275)), (1, (0, p1))], [], w) (fun r w' => ∃ z : Int, r = [(0, z)] ∧ ((w = w' ∧ ¬ (w 275 3 = 0 ∧ 0 ≤ p1 ∧ p1 < w 275 10)) ∨ (w 275 3 = 0 ∧ (0 ≤ p1 ∧ p1 < w 275 10) ∧ e_fr (mPg p1) w w' ∧ e_Has mTy w' ∧ e_Has hTy w' ∧ w' 275 9 = 0 ∧ (prS w w' p1 ∨ ∃ (n' nt' nw' : Int) (dl sg pi en : Int → Int) (an br : Int → Int → Prop), cOk w' p1 n' nt' nw' dl sg pi en an br ∧ ∀ r q, br r q → 0 ≤ q ∧ q < nw')))) := by
  obtain ⟨d, rfl⟩ : ∃ e, d = e + 1 := ⟨d - 1, by omega⟩
  have hop := e_Has.get hT (c := 275) (k := 3) (lo := 0) (hi := 1) rfl (by decide)
  have h9 := e_Has.get hH (c := 275) (k := 9) (lo := 0) (hi := 4000) rfl (by decide)
  have h10 := e_Has.get hT (c := 275) (k := 10) (lo := 0) (hi := 4) rfl (by decide)
  refine e_Ok.run (t' := (2, [(0, (1, 275)), (1, (0, p1))], [(0, p1), (1, 275)], w)) 2 rfl ?_
  refine e_Ok.callV rfl (by omega) rfl rfl rfl rfl (c_270 (by omega) hT) (fun r1 w2 h3 => ?_)
  have h4 := e_Has.get hT (c := 275) (k := 10) (lo := 0) (hi := 4) rfl (by decide)
  obtain ⟨z5, rfl, rfl, q6⟩ := h3
  obtain ⟨rfl, q6⟩ | ⟨rfl, q6⟩ := q6
  · show e_Ok 20 elay ecode eI (d + 1) 357 (5, [(0, (1, 275)), (1, (0, p1))], [(0, 1)], w) _
    refine e_Ok.if1 rfl (fun h7 => ?_) (fun h7 => ?_)
    · replace h7 : (1 : Int) ≠ 0 := h7
      refine e_Ok.run (t' := (11, [(0, (1, 275)), (1, (0, p1))], [(1, 275)], w)) 1 rfl ?_
      refine e_Ok.getf (z := w 275 3) rfl (el_o rfl) rfl rfl rfl (by omega) ?_
      refine e_Ok.if1 rfl (fun h8 => ?_) (fun h8 => ?_)
      · replace h8 : (w 275 3 : Int) = 0 := h8
        refine e_Ok.run (t' := (22, [(0, (1, 275)), (1, (0, p1))], [(0, 1), (1, 275)], w)) 2 rfl ?_
        refine e_Ok.putb rfl (el_o rfl) rfl rfl (by omega) ?_
        generalize hw9 : e_up w 275 95 1 = w9
        have f10 : e_fr mPs w w9 := e_fr.up (e_fr.refl w) hw9 (by first | exact Or.inr (Or.inr (Or.inr (Or.inr (Or.inr ⟨rfl, Or.inr (Or.inr (Or.inr rfl))⟩)))) | (unfold mPs; omega))
        have hH11 : e_Has hTy w9 := e_Has.upr hH hw9 rfl (by omega)
        have hT12 : e_Has mTy w9 := e_Has.ups hT hw9 rfl
        refine e_Ok.run (t' := (27, [(0, (1, 275)), (1, (0, p1))], [(0, 0), (1, 275)], w9)) 2 rfl ?_
        refine e_Ok.putf rfl (el_o rfl) rfl rfl ?_
        generalize hw13 : e_up w9 275 88 0 = w13
        have f14 : e_fr mPs w w13 := e_fr.up f10 hw13 (by first | exact Or.inr (Or.inr (Or.inr (Or.inr (Or.inr ⟨rfl, Or.inr (Or.inl ⟨(by decide), (by decide)⟩)⟩)))) | (unfold mPs; omega))
        have hH15 : e_Has hTy w13 := e_Has.upr hH11 hw13 rfl (by omega)
        have hT16 : e_Has mTy w13 := e_Has.ups hT12 hw13 rfl
        refine e_Ok.run (t' := (32, [(0, (1, 275)), (1, (0, p1))], [(0, (-1)), (1, 275)], w13)) 2 rfl ?_
        refine e_Ok.putf rfl (el_o rfl) rfl rfl ?_
        generalize hw17 : e_up w13 275 89 (-1) = w17
        have f18 : e_fr mPs w w17 := e_fr.up f14 hw17 (by first | exact Or.inr (Or.inr (Or.inr (Or.inr (Or.inr ⟨rfl, Or.inr (Or.inl ⟨(by decide), (by decide)⟩)⟩)))) | (unfold mPs; omega))
        have hH19 : e_Has hTy w17 := e_Has.upr hH15 hw17 rfl (by omega)
        have hT20 : e_Has mTy w17 := e_Has.ups hT16 hw17 rfl
        refine e_Ok.run (t' := (37, [(0, (1, 275)), (1, (0, p1))], [(0, 0), (1, 275)], w17)) 2 rfl ?_
        refine e_Ok.putf rfl (el_o rfl) rfl rfl ?_
        generalize hw21 : e_up w17 275 78 0 = w21
        have f22 : e_fr mPs w w21 := e_fr.up f18 hw21 (by first | exact Or.inr (Or.inr (Or.inr (Or.inr (Or.inr ⟨rfl, Or.inr (Or.inl ⟨(by decide), (by decide)⟩)⟩)))) | (unfold mPs; omega))
        have hH23 : e_Has hTy w21 := e_Has.ups hH19 hw21 rfl
        have hT24 : e_Has mTy w21 := e_Has.ups hT20 hw21 rfl
        refine e_Ok.run (t' := (42, [(0, (1, 275)), (1, (0, p1))], [(0, 0), (1, 275)], w21)) 2 rfl ?_
        refine e_Ok.putf rfl (el_o rfl) rfl rfl ?_
        generalize hw25 : e_up w21 275 79 0 = w25
        have f26 : e_fr mPs w w25 := e_fr.up f22 hw25 (by first | exact Or.inr (Or.inr (Or.inr (Or.inr (Or.inr ⟨rfl, Or.inr (Or.inl ⟨(by decide), (by decide)⟩)⟩)))) | (unfold mPs; omega))
        have hH27 : e_Has hTy w25 := e_Has.ups hH23 hw25 rfl
        have hT28 : e_Has mTy w25 := e_Has.ups hT24 hw25 rfl
        refine e_Ok.run (t' := (47, [(0, (1, 275)), (1, (0, p1))], [(0, 0), (1, 275)], w25)) 2 rfl ?_
        refine e_Ok.putf rfl (el_o rfl) rfl rfl ?_
        generalize hw29 : e_up w25 275 80 0 = w29
        have f30 : e_fr mPs w w29 := e_fr.up f26 hw29 (by first | exact Or.inr (Or.inr (Or.inr (Or.inr (Or.inr ⟨rfl, Or.inr (Or.inl ⟨(by decide), (by decide)⟩)⟩)))) | (unfold mPs; omega))
        have hH31 : e_Has hTy w29 := e_Has.ups hH27 hw29 rfl
        have hT32 : e_Has mTy w29 := e_Has.ups hT28 hw29 rfl
        refine e_Ok.run (t' := (52, [(0, (1, 275)), (1, (0, p1))], [(0, (-1)), (1, 275)], w29)) 2 rfl ?_
        refine e_Ok.putf rfl (el_o rfl) rfl rfl ?_
        generalize hw33 : e_up w29 275 81 (-1) = w33
        have f34 : e_fr mPs w w33 := e_fr.up f30 hw33 (by first | exact Or.inr (Or.inr (Or.inr (Or.inr (Or.inr ⟨rfl, Or.inr (Or.inl ⟨(by decide), (by decide)⟩)⟩)))) | (unfold mPs; omega))
        have hH35 : e_Has hTy w33 := e_Has.ups hH31 hw33 rfl
        have hT36 : e_Has mTy w33 := e_Has.ups hT32 hw33 rfl
        refine e_Ok.run (t' := (57, [(0, (1, 275)), (1, (0, p1))], [(0, (-1)), (1, 275)], w33)) 2 rfl ?_
        refine e_Ok.putf rfl (el_o rfl) rfl rfl ?_
        generalize hw37 : e_up w33 275 82 (-1) = w37
        have f38 : e_fr mPs w w37 := e_fr.up f34 hw37 (by first | exact Or.inr (Or.inr (Or.inr (Or.inr (Or.inr ⟨rfl, Or.inr (Or.inl ⟨(by decide), (by decide)⟩)⟩)))) | (unfold mPs; omega))
        have hH40 : e_Has hTy w37 := e_Has.ups hH35 hw37 rfl
        have hT41 : e_Has mTy w37 := e_Has.ups hT36 hw37 rfl
        refine e_Ok.run (t' := (62, [(0, (1, 275)), (1, (0, p1))], [(0, 0), (1, 275)], w37)) 2 rfl ?_
        refine e_Ok.putf rfl (el_o rfl) rfl rfl ?_
        generalize hw42 : e_up w37 275 83 0 = w42
        have f43 : e_fr mPs w w42 := e_fr.up f38 hw42 (by first | exact Or.inr (Or.inr (Or.inr (Or.inr (Or.inr ⟨rfl, Or.inr (Or.inl ⟨(by decide), (by decide)⟩)⟩)))) | (unfold mPs; omega))
        have hH44 : e_Has hTy w42 := e_Has.ups hH40 hw42 rfl
        have hT45 : e_Has mTy w42 := e_Has.ups hT41 hw42 rfl
        refine e_Ok.run (t' := (67, [(0, (1, 275)), (1, (0, p1))], [(0, 0), (1, 275)], w42)) 2 rfl ?_
        refine e_Ok.putf rfl (el_o rfl) rfl rfl ?_
        generalize hw46 : e_up w42 275 94 0 = w46
        have f47 : e_fr mPs w w46 := e_fr.up f43 hw46 (by first | exact Or.inr (Or.inr (Or.inr (Or.inr (Or.inr ⟨rfl, Or.inr (Or.inr (Or.inl rfl))⟩)))) | (unfold mPs; omega))
        have hH48 : e_Has hTy w46 := e_Has.ups hH44 hw46 rfl
        have hT49 : e_Has mTy w46 := e_Has.ups hT45 hw46 rfl
        refine e_Ok.run (t' := (71, [(0, (1, 275)), (1, (0, p1))], [(1, 275)], w46)) 1 rfl ?_
        refine e_Ok.getr (z := 339) rfl (el_o rfl) rfl rfl (by rw [← hw46]; exact (e_up_ne _ _ (Or.inr (by omega))).trans (by rw [← hw42]; exact (e_up_ne _ _ (Or.inr (by omega))).trans (by rw [← hw37]; exact (e_up_ne _ _ (Or.inr (by omega))).trans (by rw [← hw33]; exact (e_up_ne _ _ (Or.inr (by omega))).trans (by rw [← hw29]; exact (e_up_ne _ _ (Or.inr (by omega))).trans (by rw [← hw25]; exact (e_up_ne _ _ (Or.inr (by omega))).trans (by rw [← hw21]; exact (e_up_ne _ _ (Or.inr (by omega))).trans (by rw [← hw17]; exact (e_up_ne _ _ (Or.inr (by omega))).trans (by rw [← hw13]; exact (e_up_ne _ _ (Or.inr (by omega))).trans (by rw [← hw9]; exact (e_up_ne _ _ (Or.inr (by omega))).trans (e_Has.eq hT rfl))))))))))) (by omega) ?_
        refine e_Ok.run (t' := (76, [(0, (1, 275)), (1, (0, p1))], [(0, 0), (0, 4), (1, 339)], w46)) 2 rfl ?_
        refine e_Ok.ast rfl (el_o rfl) rfl rfl (by omega) ?_
        generalize hw50 : e_up w46 339 4 0 = w50
        have f51 : e_fr mPs w w50 := e_fr.up f47 hw50 (by first | exact Or.inr (Or.inr (Or.inr (Or.inl ⟨Or.inr rfl, rfl⟩))) | (unfold mPs; omega))
        have hH52 : e_Has hTy w50 := e_Has.ups hH48 hw50 rfl
        have hT53 : e_Has mTy w50 := e_Has.upr hT49 hw50 rfl (by omega)
        refine e_Ok.run (t' := (78, [(0, (1, 275)), (1, (0, p1))], [(1, 275)], w50)) 1 rfl ?_
        refine e_Ok.getr (z := 338) rfl (el_o rfl) rfl rfl (by rw [← hw50]; exact (e_up_ne _ _ (Or.inl (by omega))).trans (by rw [← hw46]; exact (e_up_ne _ _ (Or.inr (by omega))).trans (by rw [← hw42]; exact (e_up_ne _ _ (Or.inr (by omega))).trans (by rw [← hw37]; exact (e_up_ne _ _ (Or.inr (by omega))).trans (by rw [← hw33]; exact (e_up_ne _ _ (Or.inr (by omega))).trans (by rw [← hw29]; exact (e_up_ne _ _ (Or.inr (by omega))).trans (by rw [← hw25]; exact (e_up_ne _ _ (Or.inr (by omega))).trans (by rw [← hw21]; exact (e_up_ne _ _ (Or.inr (by omega))).trans (by rw [← hw17]; exact (e_up_ne _ _ (Or.inr (by omega))).trans (by rw [← hw13]; exact (e_up_ne _ _ (Or.inr (by omega))).trans (by rw [← hw9]; exact (e_up_ne _ _ (Or.inr (by omega))).trans (e_Has.eq hT rfl)))))))))))) (by omega) ?_
        refine e_Ok.run (t' := (83, [(0, (1, 275)), (1, (0, p1))], [(0, 0), (0, 4), (1, 338)], w50)) 2 rfl ?_
        refine e_Ok.ast rfl (el_o rfl) rfl rfl (by omega) ?_
        generalize hw54 : e_up w50 338 4 0 = w54
        have f55 : e_fr mPs w w54 := e_fr.up f51 hw54 (by first | exact Or.inr (Or.inr (Or.inr (Or.inl ⟨Or.inl rfl, rfl⟩))) | (unfold mPs; omega))
        have hH56 : e_Has hTy w54 := e_Has.ups hH52 hw54 rfl
        have hT57 : e_Has mTy w54 := e_Has.upr hT53 hw54 rfl (by omega)
        refine e_Ok.run (t' := (86, [(0, (1, 275)), (1, (0, p1))], [(0, 0), (1, 275)], w54)) 2 rfl ?_
        refine e_Ok.putf rfl (el_o rfl) rfl rfl ?_
        generalize hw58 : e_up w54 275 87 0 = w58
        have f59 : e_fr mPs w w58 := e_fr.up f55 hw58 (by first | exact Or.inr (Or.inr (Or.inr (Or.inr (Or.inr ⟨rfl, Or.inr (Or.inl ⟨(by decide), (by decide)⟩)⟩)))) | (unfold mPs; omega))
        have hH60 : e_Has hTy w58 := e_Has.ups hH56 hw58 rfl
        have hT61 : e_Has mTy w58 := e_Has.ups hT57 hw58 rfl
        refine e_Ok.run (t' := (90, [(0, (1, 275)), (1, (0, p1))], [(1, 275)], w58)) 1 rfl ?_
        refine e_Ok.callV rfl (by omega) rfl rfl rfl rfl (c_327 (by omega) hT61 hH60 (show w58 275 9 = w 275 9 from (by rw [← hw58]; exact (e_up_ne _ _ (Or.inr (by omega))).trans (by rw [← hw54]; exact (e_up_ne _ _ (Or.inl (by omega))).trans (by rw [← hw50]; exact (e_up_ne _ _ (Or.inl (by omega))).trans (by rw [← hw46]; exact (e_up_ne _ _ (Or.inr (by omega))).trans (by rw [← hw42]; exact (e_up_ne _ _ (Or.inr (by omega))).trans (by rw [← hw37]; exact (e_up_ne _ _ (Or.inr (by omega))).trans (by rw [← hw33]; exact (e_up_ne _ _ (Or.inr (by omega))).trans (by rw [← hw29]; exact (e_up_ne _ _ (Or.inr (by omega))).trans (by rw [← hw25]; exact (e_up_ne _ _ (Or.inr (by omega))).trans (by rw [← hw21]; exact (e_up_ne _ _ (Or.inr (by omega))).trans (by rw [← hw17]; exact (e_up_ne _ _ (Or.inr (by omega))).trans (by rw [← hw13]; exact (e_up_ne _ _ (Or.inr (by omega))).trans (by rw [← hw9]; exact (e_up_ne _ _ (Or.inr (by omega))).trans rfl)))))))))))))) h9 (t := 0) (show w58 275 87 = 0 from (by rw [← hw58]; exact e_up_eq _ _ _ _)) (by omega)) (fun r62 w63 h64 => ?_)
        obtain ⟨rfl, q, qs, qt⟩ := h64
        have hz : w63 275 78 = 0 ∧ w63 275 79 = 0 ∧ w63 275 80 = 0 ∧ w63 275 81 = -1 ∧ w63 275 82 = -1 ∧ w63 275 83 = 0 ∧ w63 275 94 = 0 := ⟨Eq.trans (q 275 78 (mTq_fld (by decide))) (show w58 275 78 = 0 from (by rw [← hw58]; exact (e_up_ne _ _ (Or.inr (by omega))).trans (by rw [← hw54]; exact (e_up_ne _ _ (Or.inl (by omega))).trans (by rw [← hw50]; exact (e_up_ne _ _ (Or.inl (by omega))).trans (by rw [← hw46]; exact (e_up_ne _ _ (Or.inr (by omega))).trans (by rw [← hw42]; exact (e_up_ne _ _ (Or.inr (by omega))).trans (by rw [← hw37]; exact (e_up_ne _ _ (Or.inr (by omega))).trans (by rw [← hw33]; exact (e_up_ne _ _ (Or.inr (by omega))).trans (by rw [← hw29]; exact (e_up_ne _ _ (Or.inr (by omega))).trans (by rw [← hw25]; exact (e_up_ne _ _ (Or.inr (by omega))).trans (by rw [← hw21]; exact e_up_eq _ _ _ _))))))))))), Eq.trans (q 275 79 (mTq_fld (by decide))) (show w58 275 79 = 0 from (by rw [← hw58]; exact (e_up_ne _ _ (Or.inr (by omega))).trans (by rw [← hw54]; exact (e_up_ne _ _ (Or.inl (by omega))).trans (by rw [← hw50]; exact (e_up_ne _ _ (Or.inl (by omega))).trans (by rw [← hw46]; exact (e_up_ne _ _ (Or.inr (by omega))).trans (by rw [← hw42]; exact (e_up_ne _ _ (Or.inr (by omega))).trans (by rw [← hw37]; exact (e_up_ne _ _ (Or.inr (by omega))).trans (by rw [← hw33]; exact (e_up_ne _ _ (Or.inr (by omega))).trans (by rw [← hw29]; exact (e_up_ne _ _ (Or.inr (by omega))).trans (by rw [← hw25]; exact e_up_eq _ _ _ _)))))))))), Eq.trans (q 275 80 (mTq_fld (by decide))) (show w58 275 80 = 0 from (by rw [← hw58]; exact (e_up_ne _ _ (Or.inr (by omega))).trans (by rw [← hw54]; exact (e_up_ne _ _ (Or.inl (by omega))).trans (by rw [← hw50]; exact (e_up_ne _ _ (Or.inl (by omega))).trans (by rw [← hw46]; exact (e_up_ne _ _ (Or.inr (by omega))).trans (by rw [← hw42]; exact (e_up_ne _ _ (Or.inr (by omega))).trans (by rw [← hw37]; exact (e_up_ne _ _ (Or.inr (by omega))).trans (by rw [← hw33]; exact (e_up_ne _ _ (Or.inr (by omega))).trans (by rw [← hw29]; exact e_up_eq _ _ _ _))))))))), Eq.trans (q 275 81 (mTq_fld (by decide))) (show w58 275 81 = (-1) from (by rw [← hw58]; exact (e_up_ne _ _ (Or.inr (by omega))).trans (by rw [← hw54]; exact (e_up_ne _ _ (Or.inl (by omega))).trans (by rw [← hw50]; exact (e_up_ne _ _ (Or.inl (by omega))).trans (by rw [← hw46]; exact (e_up_ne _ _ (Or.inr (by omega))).trans (by rw [← hw42]; exact (e_up_ne _ _ (Or.inr (by omega))).trans (by rw [← hw37]; exact (e_up_ne _ _ (Or.inr (by omega))).trans (by rw [← hw33]; exact e_up_eq _ _ _ _)))))))), Eq.trans (q 275 82 (mTq_fld (by decide))) (show w58 275 82 = (-1) from (by rw [← hw58]; exact (e_up_ne _ _ (Or.inr (by omega))).trans (by rw [← hw54]; exact (e_up_ne _ _ (Or.inl (by omega))).trans (by rw [← hw50]; exact (e_up_ne _ _ (Or.inl (by omega))).trans (by rw [← hw46]; exact (e_up_ne _ _ (Or.inr (by omega))).trans (by rw [← hw42]; exact (e_up_ne _ _ (Or.inr (by omega))).trans (by rw [← hw37]; exact e_up_eq _ _ _ _))))))), Eq.trans (q 275 83 (mTq_fld (by decide))) (show w58 275 83 = 0 from (by rw [← hw58]; exact (e_up_ne _ _ (Or.inr (by omega))).trans (by rw [← hw54]; exact (e_up_ne _ _ (Or.inl (by omega))).trans (by rw [← hw50]; exact (e_up_ne _ _ (Or.inl (by omega))).trans (by rw [← hw46]; exact (e_up_ne _ _ (Or.inr (by omega))).trans (by rw [← hw42]; exact e_up_eq _ _ _ _)))))), Eq.trans (q 275 94 (mTq_fld (by decide))) (show w58 275 94 = 0 from (by rw [← hw58]; exact (e_up_ne _ _ (Or.inr (by omega))).trans (by rw [← hw54]; exact (e_up_ne _ _ (Or.inl (by omega))).trans (by rw [← hw50]; exact (e_up_ne _ _ (Or.inl (by omega))).trans (by rw [← hw46]; exact e_up_eq _ _ _ _)))))⟩
        have h88 : w63 275 88 = 0 := Eq.trans (q 275 88 (mTq_fld (by decide))) (show w58 275 88 = 0 from (by rw [← hw58]; exact (e_up_ne _ _ (Or.inr (by omega))).trans (by rw [← hw54]; exact (e_up_ne _ _ (Or.inl (by omega))).trans (by rw [← hw50]; exact (e_up_ne _ _ (Or.inl (by omega))).trans (by rw [← hw46]; exact (e_up_ne _ _ (Or.inr (by omega))).trans (by rw [← hw42]; exact (e_up_ne _ _ (Or.inr (by omega))).trans (by rw [← hw37]; exact (e_up_ne _ _ (Or.inr (by omega))).trans (by rw [← hw33]; exact (e_up_ne _ _ (Or.inr (by omega))).trans (by rw [← hw29]; exact (e_up_ne _ _ (Or.inr (by omega))).trans (by rw [← hw25]; exact (e_up_ne _ _ (Or.inr (by omega))).trans (by rw [← hw21]; exact (e_up_ne _ _ (Or.inr (by omega))).trans (by rw [← hw17]; exact (e_up_ne _ _ (Or.inr (by omega))).trans (by rw [← hw13]; exact e_up_eq _ _ _ _)))))))))))))
        have h338 : w63 338 4 = 0 := Eq.trans (q 338 4 (mTq_not (by decide))) (show w58 338 4 = 0 from (by rw [← hw58]; exact (e_up_ne _ _ (Or.inl (by omega))).trans (by rw [← hw54]; exact e_up_eq _ _ _ _)))
        have h339 : w63 339 4 = 0 := Eq.trans (q 339 4 (mTq_not (by decide))) (show w58 339 4 = 0 from (by rw [← hw58]; exact (e_up_ne _ _ (Or.inl (by omega))).trans (by rw [← hw54]; exact (e_up_ne _ _ (Or.inl (by omega))).trans (by rw [← hw50]; exact e_up_eq _ _ _ _))))
        have hcs : cSt w63 (w 275 9) := ⟨mT_Tq q hT61, hT_Tq q hH60, Eq.trans (q 275 9 (mTq_fld (by decide))) (show w58 275 9 = w 275 9 from (by rw [← hw58]; exact (e_up_ne _ _ (Or.inr (by omega))).trans (by rw [← hw54]; exact (e_up_ne _ _ (Or.inl (by omega))).trans (by rw [← hw50]; exact (e_up_ne _ _ (Or.inl (by omega))).trans (by rw [← hw46]; exact (e_up_ne _ _ (Or.inr (by omega))).trans (by rw [← hw42]; exact (e_up_ne _ _ (Or.inr (by omega))).trans (by rw [← hw37]; exact (e_up_ne _ _ (Or.inr (by omega))).trans (by rw [← hw33]; exact (e_up_ne _ _ (Or.inr (by omega))).trans (by rw [← hw29]; exact (e_up_ne _ _ (Or.inr (by omega))).trans (by rw [← hw25]; exact (e_up_ne _ _ (Or.inr (by omega))).trans (by rw [← hw21]; exact (e_up_ne _ _ (Or.inr (by omega))).trans (by rw [← hw17]; exact (e_up_ne _ _ (Or.inr (by omega))).trans (by rw [← hw13]; exact (e_up_ne _ _ (Or.inr (by omega))).trans (by rw [← hw9]; exact (e_up_ne _ _ (Or.inr (by omega))).trans rfl)))))))))))))), qs, by rw [hz.2.2.2.1]; decide⟩
        have f1 : e_fr mPs w w63 := e_fr.trans f59 (e_fr.mono q (fun c k g => by unfold mTq at g; unfold mPs; omega))
        have xt1 := tkS.lin hcs.2.2.2.1
        show e_Ok 20 elay ecode eI (d + 1) 357 (93, [(0, (1, 275)), (1, (0, p1))], [], w63) _
        refine e_Ok.run (t' := (94, [(0, (1, 275)), (1, (0, p1))], [(1, 275)], w63)) 1 rfl ?_
        refine e_Ok.callV rfl (by omega) rfl rfl rfl rfl (c_353 (by omega) hcs h9 h88 hz) (fun r65 w66 h67 => ?_)
        obtain ⟨rfl, xF, xc, xl, xg⟩ := h67
        rw [hz.1, hz.2.1, hz.2.2.1, hz.2.2.2.2.2.2] at xF
        unfold stL at xl
        rw [hz.1, hz.2.1, hz.2.2.1, hz.2.2.2.2.2.2] at xl
        rw [hz.2.2.2.1] at xg
        replace xg := (show Hid _ from xg)
        obtain ⟨x1, x2, x3, x4, x5, x6, -, -, -, -, -, -⟩ := xl
        have xt := tkS.lin xc.2.2.2.1
        have xk := e_Has.get xc.2.1 (c := 275) (k := 88) (lo := 0) (hi := 7) rfl (by decide)
        have f2 : e_fr mPs w w66 := e_fr.trans f1 (e_fr.mono xF (fun c k g => by unfold mStm at g; unfold mPs; omega))
        have x338 : w66 338 4 = 0 := Eq.trans (xF 338 4 (by first | exact no_bn_0 | (unfold mStm; omega))) h338
        have x339 : w66 339 4 = 0 := Eq.trans (xF 339 4 (by first | exact no_bn_1 | (unfold mStm; omega))) h339
        show e_Ok 20 elay ecode eI (d + 1) 357 (97, [(0, (1, 275)), (1, (0, p1))], [], w66) _
        refine e_Ok.run (t' := (98, [(0, (1, 275)), (1, (0, p1))], [(1, 275)], w66)) 1 rfl ?_
        refine e_Ok.callV rfl (by omega) rfl rfl rfl rfl (c_356_x (by omega) xc.1 xc.2.1 (N := w 275 9) (n := w66 275 78) (mm := w66 275 94) (by omega) rfl (by omega) (by omega) (fun z => ⟨(GX.gb (xg.out z)).1.1.2, (GX.gb (xg.out z)).1.2.2.2.2.2.2.2.2.2.2⟩) x339 x338) (fun r68 w69 h70 => ?_)
        obtain ⟨rfl, rF, rT, rH, rq⟩ := h70
        replace rq := (show Hid _ from rq)
        have f3 : e_fr mPs w w69 := e_fr.trans f2 (e_fr.mono rF (fun c k g => by unfold mRsv at g; unfold mPs; omega))
        have rk := e_Has.get rH (c := 275) (k := 88) (lo := 0) (hi := 7) rfl (by decide)
        show e_Ok 20 elay ecode eI (d + 1) 357 (101, [(0, (1, 275)), (1, (0, p1))], [], w69) _
        refine e_Ok.run (t' := (103, [(0, (1, 275)), (1, (0, p1))], [(0, 0), (1, 275)], w69)) 2 rfl ?_
        refine e_Ok.putf rfl (el_o rfl) rfl rfl ?_
        generalize hw71 : e_up w69 275 9 0 = w71
        have f72 : e_fr mPs w w71 := e_fr.up f3 hw71 (by first | exact Or.inr (Or.inr (Or.inr (Or.inr (Or.inr ⟨rfl, Or.inl rfl⟩)))) | (unfold mPs; omega))
        have hH73 : e_Has hTy w71 := e_Has.upr rH hw71 rfl (by omega)
        have hT74 : e_Has mTy w71 := e_Has.ups rT hw71 rfl
        refine e_Ok.run (t' := (107, [(0, (1, 275)), (1, (0, p1))], [(1, 275)], w71)) 1 rfl ?_
        have h75 := (e_Has.get rH (c := 275) (k := 88) (lo := 0) (hi := 7) rfl (by decide))
        refine e_Ok.getf (z := w69 275 88) rfl (el_o rfl) rfl rfl (by rw [← hw71]; exact (e_up_ne _ _ (Or.inr (by omega))).trans rfl) (by omega) ?_
        refine e_Ok.if1 rfl (fun h76 => ?_) (fun h76 => ?_)
        · replace h76 : (w69 275 88 : Int) = 0 := h76
          have hX78 : w71 275 78 = w66 275 78 := (by rw [← hw71]; exact (e_up_ne _ _ (Or.inr (by omega))).trans ((rF 275 78 no_bn_2).trans rfl))
          have hG2 : w66 275 88 = 0 ∧ RS w66 w69 (w66 275 78) (w66 275 94) (w66 275 94) := by rcases rq.out with ⟨y1, y2⟩ | ⟨y1, y2⟩; exact absurd (by rw [y2]; omega) y1; exact ⟨y1, y2 (by omega)⟩
          have hgx := xg.out hG2.1
          have hG21 := hG2.1
          replace x3 := x3 hG21
          have hnb : 0 ≤ w66 275 78 ∧ w66 275 78 ≤ 9900 := by omega
          have hnt : w66 275 79 ≤ 900 ∧ w66 275 80 ≤ 900 := by omega
          refine e_Ok.run (t' := (123, [(2, (0, 0)), (0, (1, 275)), (1, (0, p1))], [], w71)) 2 rfl ?_
          have hL77 : ∀ (nn : Nat) (y2 : Int) (v1 : eW), cp3 w71 v1 p1 y2 ∧ e_Has mTy v1 ∧ e_Has hTy v1 ∧ ((0 ≤ y2 ∧ y2 ≤ w66 275 78)) → 9900 - y2 < nn → e_Ok 20 elay ecode eI (d + 1) 357 (123, [(0, (1, 275)), (1, (0, p1)), (2, (0, y2))], [], v1) (fun r w' => ∃ z : Int, r = [(0, z)] ∧ ((w = w' ∧ ¬ (w 275 3 = 0 ∧ 0 ≤ p1 ∧ p1 < w 275 10)) ∨ (w 275 3 = 0 ∧ (0 ≤ p1 ∧ p1 < w 275 10) ∧ e_fr (mPg p1) w w' ∧ e_Has mTy w' ∧ e_Has hTy w' ∧ w' 275 9 = 0 ∧ (prS w w' p1 ∨ ∃ (n' nt' nw' : Int) (dl sg pi en : Int → Int) (an br : Int → Int → Prop), cOk w' p1 n' nt' nw' dl sg pi en an br ∧ ∀ r q, br r q → 0 ≤ q ∧ q < nw')))) := by
            intro nn
            induction nn with
            | zero => intro y2 v1 hj hm; obtain ⟨j79, j80, j81, j82⟩ := hj; exfalso; omega
            | succ nn ih78 =>
              intro y2 v1 hj hm
              obtain ⟨j79, j80, j81, j82⟩ := hj
              refine e_Ok.run (t' := (125, [(0, (1, 275)), (1, (0, p1)), (2, (0, y2))], [(1, 275), (0, y2)], v1)) 2 rfl ?_
              refine e_Ok.getf (z := w66 275 78) rfl (el_o rfl) rfl rfl (Eq.trans (j79.1 275 78 (by omega)) hX78) (by omega) ?_
              refine e_Ok.if2 rfl (fun h83 => ?_) (fun h83 => ?_)
              · replace h83 : (y2 : Int) ≥ w66 275 78 := h83
                refine e_Ok.run (t' := (205, [(2, (0, 0)), (0, (1, 275)), (1, (0, p1))], [], v1)) 2 rfl ?_
                have hL84 : ∀ (nn : Nat) (z2 : Int) (v2 : eW), cp6 v1 v2 p1 z2 ∧ e_Has mTy v2 ∧ e_Has hTy v2 ∧ ((0 ≤ z2 ∧ z2 ≤ 900)) → 900 - z2 < nn → e_Ok 20 elay ecode eI (d + 1) 357 (205, [(0, (1, 275)), (1, (0, p1)), (2, (0, z2))], [], v2) (fun r w' => ∃ z : Int, r = [(0, z)] ∧ ((w = w' ∧ ¬ (w 275 3 = 0 ∧ 0 ≤ p1 ∧ p1 < w 275 10)) ∨ (w 275 3 = 0 ∧ (0 ≤ p1 ∧ p1 < w 275 10) ∧ e_fr (mPg p1) w w' ∧ e_Has mTy w' ∧ e_Has hTy w' ∧ w' 275 9 = 0 ∧ (prS w w' p1 ∨ ∃ (n' nt' nw' : Int) (dl sg pi en : Int → Int) (an br : Int → Int → Prop), cOk w' p1 n' nt' nw' dl sg pi en an br ∧ ∀ r q, br r q → 0 ≤ q ∧ q < nw')))) := by
                  intro nn
                  induction nn with
                  | zero => intro z2 v2 hj hm; obtain ⟨j86, j87, j88, j89⟩ := hj; exfalso; omega
                  | succ nn ih85 =>
                    intro z2 v2 hj hm
                    obtain ⟨j86, j87, j88, j89⟩ := hj
                    refine e_Ok.run (t' := (209, [(0, (1, 275)), (1, (0, p1)), (2, (0, z2))], [(0, 900), (0, z2)], v2)) 2 rfl ?_
                    refine e_Ok.if2 rfl (fun h90 => ?_) (fun h90 => ?_)
                    · replace h90 : (z2 : Int) ≥ 900 := h90
                      refine e_Ok.run (t' := (352, [(2, (0, 0)), (0, (1, 275)), (1, (0, p1))], [], v2)) 2 rfl ?_
                      have hL91 : ∀ (nn : Nat) (t2 : Int) (v3 : eW), cp2 v2 v3 p1 t2 ∧ e_Has mTy v3 ∧ e_Has hTy v3 ∧ ((0 ≤ t2 ∧ t2 ≤ 32)) → 32 - t2 < nn → e_Ok 20 elay ecode eI (d + 1) 357 (352, [(0, (1, 275)), (1, (0, p1)), (2, (0, t2))], [], v3) (fun r w' => ∃ z : Int, r = [(0, z)] ∧ ((w = w' ∧ ¬ (w 275 3 = 0 ∧ 0 ≤ p1 ∧ p1 < w 275 10)) ∨ (w 275 3 = 0 ∧ (0 ≤ p1 ∧ p1 < w 275 10) ∧ e_fr (mPg p1) w w' ∧ e_Has mTy w' ∧ e_Has hTy w' ∧ w' 275 9 = 0 ∧ (prS w w' p1 ∨ ∃ (n' nt' nw' : Int) (dl sg pi en : Int → Int) (an br : Int → Int → Prop), cOk w' p1 n' nt' nw' dl sg pi en an br ∧ ∀ r q, br r q → 0 ≤ q ∧ q < nw')))) := by
                        intro nn
                        induction nn with
                        | zero => intro t2 v3 hj hm; obtain ⟨j93, j94, j95, j101⟩ := hj; exfalso; omega
                        | succ nn ih92 =>
                          intro t2 v3 hj hm
                          obtain ⟨j93, j94, j95, j101⟩ := hj
                          refine e_Ok.run (t' := (355, [(0, (1, 275)), (1, (0, p1)), (2, (0, t2))], [(0, 32), (0, t2)], v3)) 2 rfl ?_
                          refine e_Ok.if2 rfl (fun h103 => ?_) (fun h103 => ?_)
                          · replace h103 : (t2 : Int) ≥ 32 := h103
                            refine e_Ok.run (t' := (402, [(0, (1, 275)), (1, (0, p1)), (2, (0, t2))], [(1, 275)], v3)) 1 rfl ?_
                            refine e_Ok.getr (z := 338) rfl (el_o rfl) rfl rfl (e_Has.eq j94 rfl) (by omega) ?_
                            refine e_Ok.run (t' := (407, [(0, (1, 275)), (1, (0, p1)), (2, (0, t2))], [(1, 275), (0, p1), (1, 338)], v3)) 2 rfl ?_
                            refine e_Ok.getr (z := 338) rfl (el_o rfl) rfl rfl (e_Has.eq j94 rfl) (by omega) ?_
                            refine e_Ok.run (t' := (411, [(0, (1, 275)), (1, (0, p1)), (2, (0, t2))], [(0, 4), (1, 338), (0, p1), (1, 338)], v3)) 1 rfl ?_
                            have h104 := (e_Has.get j94 (c := 338) (k := 4) (lo := 0) (hi := 32) rfl (by decide))
                            refine e_Ok.ald (z := v3 338 4) rfl (el_o rfl) rfl (by omega) rfl (by omega) ?_
                            refine e_Ok.ast rfl (el_o rfl) rfl rfl (by omega) ?_
                            generalize hw105 : e_up v3 338 p1 (v3 338 4) = w105
                            have hH106 : e_Has hTy w105 := e_Has.ups j95 hw105 rfl
                            have hT107 : e_Has mTy w105 := e_Has.upr j94 hw105 rfl (by omega)
                            refine e_Ok.run (t' := (414, [(0, (1, 275)), (1, (0, p1)), (2, (0, t2))], [(1, 275)], w105)) 1 rfl ?_
                            refine e_Ok.getr (z := 339) rfl (el_o rfl) rfl rfl (by rw [← hw105]; exact (e_up_ne _ _ (Or.inl (by omega))).trans (e_Has.eq j94 rfl)) (by omega) ?_
                            refine e_Ok.run (t' := (419, [(0, (1, 275)), (1, (0, p1)), (2, (0, t2))], [(1, 275), (0, p1), (1, 339)], w105)) 2 rfl ?_
                            refine e_Ok.getr (z := 339) rfl (el_o rfl) rfl rfl (by rw [← hw105]; exact (e_up_ne _ _ (Or.inl (by omega))).trans (e_Has.eq j94 rfl)) (by omega) ?_
                            refine e_Ok.run (t' := (423, [(0, (1, 275)), (1, (0, p1)), (2, (0, t2))], [(0, 4), (1, 339), (0, p1), (1, 339)], w105)) 1 rfl ?_
                            have h108 := (e_Has.get j94 (c := 339) (k := 4) (lo := 0) (hi := 32) rfl (by decide))
                            refine e_Ok.ald (z := v3 339 4) rfl (el_o rfl) rfl (by omega) (by rw [← hw105]; exact (e_up_ne _ _ (Or.inl (by omega))).trans rfl) (by omega) ?_
                            refine e_Ok.ast rfl (el_o rfl) rfl rfl (by omega) ?_
                            generalize hw109 : e_up w105 339 p1 (v3 339 4) = w109
                            have hH110 : e_Has hTy w109 := e_Has.ups hH106 hw109 rfl
                            have hT111 : e_Has mTy w109 := e_Has.upr hT107 hw109 rfl (by omega)
                            refine e_Ok.run (t' := (426, [(0, (1, 275)), (1, (0, p1)), (2, (0, t2))], [(1, 275)], w109)) 1 rfl ?_
                            refine e_Ok.getr (z := 340) rfl (el_o rfl) rfl rfl (by rw [← hw109]; exact (e_up_ne _ _ (Or.inl (by omega))).trans (by rw [← hw105]; exact (e_up_ne _ _ (Or.inl (by omega))).trans (e_Has.eq j94 rfl))) (by omega) ?_
                            refine e_Ok.run (t' := (431, [(0, (1, 275)), (1, (0, p1)), (2, (0, t2))], [(0, 1), (0, p1), (1, 340)], w109)) 2 rfl ?_
                            refine e_Ok.ast rfl (el_o rfl) rfl (e_nar_b (by omega)) (by omega) ?_
                            generalize hw112 : e_up w109 340 p1 1 = w112
                            have hH113 : e_Has hTy w112 := e_Has.ups hH110 hw112 rfl
                            have hT114 : e_Has mTy w112 := e_Has.upr hT111 hw112 rfl (by omega)
                            refine e_Ok.run (t' := (433, [(0, (1, 275)), (1, (0, p1)), (2, (0, t2))], [(1, 275)], w112)) 1 rfl ?_
                            refine e_Ok.getr (z := 338) rfl (el_o rfl) rfl rfl (by rw [← hw112]; exact (e_up_ne _ _ (Or.inl (by omega))).trans (by rw [← hw109]; exact (e_up_ne _ _ (Or.inl (by omega))).trans (by rw [← hw105]; exact (e_up_ne _ _ (Or.inl (by omega))).trans (e_Has.eq j94 rfl)))) (by omega) ?_
                            refine e_Ok.run (t' := (437, [(0, (1, 275)), (1, (0, p1)), (2, (0, t2))], [(0, p1), (1, 338)], w112)) 1 rfl ?_
                            refine e_Ok.ald (z := v3 338 4) rfl (el_o rfl) rfl (by omega) (by rw [← hw112]; exact (e_up_ne _ _ (Or.inl (by omega))).trans (by rw [← hw109]; exact (e_up_ne _ _ (Or.inl (by omega))).trans (by rw [← hw105]; exact e_up_eq _ _ _ _))) (by omega) ?_
                            refine e_Ok.rets rfl rfl ?_
                            have hfr : e_fr (mPg p1) w w112 := fun c k g => by
                              have g' := g
                              unfold mPg mPs at g'
                              rw [← hw112, e_up_ne _ _ (by omega), ← hw109, e_up_ne _ _ (by omega), ← hw105, e_up_ne _ _ (by omega), j93.1 c k (by omega), j86.1 c k (by omega), j79.1 c k (by omega)]
                              exact f72 c k (fun y => g (Or.inl y))
                            have hp9 : w112 275 9 = 0 := by rw [← hw112, e_up_ne _ _ (Or.inl (by decide)), ← hw109, e_up_ne _ _ (Or.inl (by decide)), ← hw105, e_up_ne _ _ (Or.inl (by decide)), j93.1 275 9 (by omega), j86.1 275 9 (by omega), j79.1 275 9 (by omega), ← hw71]; exact e_up_eq _ _ _ _
                            have k3 : cp3 w71 v1 p1 (w66 275 78) := by have y := j79; rw [show y2 = w66 275 78 by omega] at y; exact y
                            have k6 : cp6 v1 v2 p1 900 := by have y := j86; rw [show z2 = 900 by omega] at y; exact y
                            have k2 : cp2 v2 v3 p1 32 := by have y := j93; rw [show t2 = 32 by omega] at y; exact y
                            exact ⟨_, rfl, Or.inr ⟨by omega, by omega, hfr, hT114, hH113, hp9, Or.inr (prog_ok hgx hG2.2 rF (fun c k g => by rw [← hw71]; exact e_up_ne _ _ (by omega)) (by omega) hnb hnt.1 hnt.2 k3 k6 k2 hw105 rfl ⟨_, hw109⟩ hw112)⟩⟩
                          · replace h103 : (t2 : Int) < 32 := by have q : ¬ ((t2 : Int) ≥ 32) := h103; omega
                            refine e_Ok.run (t' := (359, [(0, (1, 275)), (1, (0, p1)), (2, (0, t2))], [(1, 275)], v3)) 1 rfl ?_
                            refine e_Ok.getr (z := 337) rfl (el_o rfl) rfl rfl (e_Has.eq j94 rfl) (by omega) ?_
                            refine e_Ok.run (t' := (365, [(0, (1, 275)), (1, (0, p1)), (2, (0, t2))], [(0, p1), (0, 32), (1, 337)], v3)) 2 rfl ?_
                            refine e_Ok.mul (z := 32 * p1) rfl (by omega) (by omega) ?_
                            refine e_Ok.run (t' := (367, [(0, (1, 275)), (1, (0, p1)), (2, (0, t2))], [(0, t2), (0, 32 * p1), (1, 337)], v3)) 1 rfl ?_
                            refine e_Ok.add (z := 32 * p1 + t2) rfl (by omega) (by omega) ?_
                            refine e_Ok.run (t' := (369, [(0, (1, 275)), (1, (0, p1)), (2, (0, t2))], [(1, 275), (0, 32 * p1 + t2), (1, 337)], v3)) 1 rfl ?_
                            refine e_Ok.getr (z := 337) rfl (el_o rfl) rfl rfl (e_Has.eq j94 rfl) (by omega) ?_
                            refine e_Ok.run (t' := (376, [(0, (1, 275)), (1, (0, p1)), (2, (0, t2))], [(0, t2), (0, 128), (1, 337), (0, 32 * p1 + t2), (1, 337)], v3)) 2 rfl ?_
                            refine e_Ok.add (z := t2 + 128) rfl (by omega) (by omega) ?_
                            have h115 := (e_Has.get j94 (c := 337) (k := t2 + 128) (lo := (-2147483648)) (hi := 2147483647) rfl (by decide))
                            refine e_Ok.ald (z := v3 337 (t2 + 128)) rfl (el_o rfl) rfl (by omega) rfl (by omega) ?_
                            refine e_Ok.ast rfl (el_o rfl) rfl rfl (by omega) ?_
                            generalize hw116 : e_up v3 337 (32 * p1 + t2) (v3 337 (t2 + 128)) = w116
                            have hH117 : e_Has hTy w116 := e_Has.ups j95 hw116 rfl
                            have hT118 : e_Has mTy w116 := e_Has.upr j94 hw116 rfl (by omega)
                            refine e_Ok.run (t' := (380, [(0, (1, 275)), (1, (0, p1)), (2, (0, t2))], [(1, 275)], w116)) 1 rfl ?_
                            refine e_Ok.getr (z := 276) rfl (el_o rfl) rfl rfl (by rw [← hw116]; exact (e_up_ne _ _ (Or.inl (by omega))).trans (e_Has.eq j94 rfl)) (by omega) ?_
                            refine e_Ok.run (t' := (389, [(0, (1, 275)), (1, (0, p1)), (2, (0, t2))], [(0, p1), (0, 32), (0, 20932), (1, 276)], w116)) 3 rfl ?_
                            refine e_Ok.mul (z := 32 * p1) rfl (by omega) (by omega) ?_
                            refine e_Ok.add (z := 32 * p1 + 20932) rfl (by omega) (by omega) ?_
                            refine e_Ok.run (t' := (392, [(0, (1, 275)), (1, (0, p1)), (2, (0, t2))], [(0, t2), (0, 32 * p1 + 20932), (1, 276)], w116)) 1 rfl ?_
                            refine e_Ok.add (z := 32 * p1 + t2 + 20932) rfl (by omega) (by omega) ?_
                            refine e_Ok.run (t' := (394, [(0, (1, 275)), (1, (0, p1)), (2, (0, t2))], [(0, 0), (0, 32 * p1 + t2 + 20932), (1, 276)], w116)) 1 rfl ?_
                            refine e_Ok.ast rfl (el_o rfl) rfl rfl (by omega) ?_
                            generalize hw119 : e_up w116 276 (32 * p1 + t2 + 20932) 0 = w119
                            have hH120 : e_Has hTy w119 := e_Has.ups hH117 hw119 rfl
                            have hT121 : e_Has mTy w119 := e_Has.upr hT118 hw119 (nR_mid (by omega)) (by omega)
                            refine e_Ok.inc (z := t2 + 1) rfl rfl (by omega) (by omega) ?_
                            show e_Ok 20 elay ecode eI (d + 1) 357 (398, [(2, (0, t2 + 1)), (0, (1, 275)), (1, (0, p1))], [], w119) _
                            refine e_Ok.run (t' := (352, [(2, (0, t2 + 1)), (0, (1, 275)), (1, (0, p1))], [], w119)) 1 rfl ?_
                            refine e_Ok.sub eAlk (e_sub_of rfl ?_) (ih92 (t2 + 1) w119 ⟨(cp2.next j93 (by omega) (by omega) hw116 hw119), hT121, hH120, by omega⟩ (by omega))
                            exact ⟨rfl, rfl, rfl, trivial⟩
                      refine e_Ok.sub eAlk (e_sub_of rfl ?_) (hL91 (33 + 1 : Int).toNat 0 v2 ⟨(cp2.zero _ _), j87, j88, by omega⟩ (by omega))
                      exact ⟨rfl, rfl, rfl, trivial⟩
                    · replace h90 : (z2 : Int) < 900 := by have q : ¬ ((z2 : Int) ≥ 900) := h90; omega
                      refine e_Ok.run (t' := (213, [(0, (1, 275)), (1, (0, p1)), (2, (0, z2))], [(1, 275)], v2)) 1 rfl ?_
                      refine e_Ok.getr (z := 331) rfl (el_o rfl) rfl rfl (e_Has.eq j87 rfl) (by omega) ?_
                      refine e_Ok.run (t' := (220, [(0, (1, 275)), (1, (0, p1)), (2, (0, z2))], [(0, p1), (0, 900), (1, 331)], v2)) 2 rfl ?_
                      refine e_Ok.mul (z := 900 * p1) rfl (by omega) (by omega) ?_
                      refine e_Ok.run (t' := (222, [(0, (1, 275)), (1, (0, p1)), (2, (0, z2))], [(0, z2), (0, 900 * p1), (1, 331)], v2)) 1 rfl ?_
                      refine e_Ok.add (z := 900 * p1 + z2) rfl (by omega) (by omega) ?_
                      refine e_Ok.run (t' := (224, [(0, (1, 275)), (1, (0, p1)), (2, (0, z2))], [(1, 275), (0, 900 * p1 + z2), (1, 331)], v2)) 1 rfl ?_
                      refine e_Ok.getr (z := 331) rfl (el_o rfl) rfl rfl (e_Has.eq j87 rfl) (by omega) ?_
                      refine e_Ok.run (t' := (231, [(0, (1, 275)), (1, (0, p1)), (2, (0, z2))], [(0, z2), (0, 3600), (1, 331), (0, 900 * p1 + z2), (1, 331)], v2)) 2 rfl ?_
                      refine e_Ok.add (z := z2 + 3600) rfl (by omega) (by omega) ?_
                      have h122 := (e_Has.get j87 (c := 331) (k := z2 + 3600) (lo := (-2147483648)) (hi := 2147483647) rfl (by decide))
                      refine e_Ok.ald (z := v2 331 (z2 + 3600)) rfl (el_o rfl) rfl (by omega) rfl (by omega) ?_
                      refine e_Ok.ast rfl (el_o rfl) rfl rfl (by omega) ?_
                      generalize hw123 : e_up v2 331 (900 * p1 + z2) (v2 331 (z2 + 3600)) = w123
                      have hH124 : e_Has hTy w123 := e_Has.ups j88 hw123 rfl
                      have hT125 : e_Has mTy w123 := e_Has.upr j87 hw123 rfl (by omega)
                      refine e_Ok.run (t' := (235, [(0, (1, 275)), (1, (0, p1)), (2, (0, z2))], [(1, 275)], w123)) 1 rfl ?_
                      refine e_Ok.getr (z := 332) rfl (el_o rfl) rfl rfl (by rw [← hw123]; exact (e_up_ne _ _ (Or.inl (by omega))).trans (e_Has.eq j87 rfl)) (by omega) ?_
                      refine e_Ok.run (t' := (242, [(0, (1, 275)), (1, (0, p1)), (2, (0, z2))], [(0, p1), (0, 900), (1, 332)], w123)) 2 rfl ?_
                      refine e_Ok.mul (z := 900 * p1) rfl (by omega) (by omega) ?_
                      refine e_Ok.run (t' := (244, [(0, (1, 275)), (1, (0, p1)), (2, (0, z2))], [(0, z2), (0, 900 * p1), (1, 332)], w123)) 1 rfl ?_
                      refine e_Ok.add (z := 900 * p1 + z2) rfl (by omega) (by omega) ?_
                      refine e_Ok.run (t' := (246, [(0, (1, 275)), (1, (0, p1)), (2, (0, z2))], [(1, 275), (0, 900 * p1 + z2), (1, 332)], w123)) 1 rfl ?_
                      refine e_Ok.getr (z := 332) rfl (el_o rfl) rfl rfl (by rw [← hw123]; exact (e_up_ne _ _ (Or.inl (by omega))).trans (e_Has.eq j87 rfl)) (by omega) ?_
                      refine e_Ok.run (t' := (253, [(0, (1, 275)), (1, (0, p1)), (2, (0, z2))], [(0, z2), (0, 3600), (1, 332), (0, 900 * p1 + z2), (1, 332)], w123)) 2 rfl ?_
                      refine e_Ok.add (z := z2 + 3600) rfl (by omega) (by omega) ?_
                      have h126 := (e_Has.get j87 (c := 332) (k := z2 + 3600) (lo := (-2147483648)) (hi := 2147483647) rfl (by decide))
                      refine e_Ok.ald (z := v2 332 (z2 + 3600)) rfl (el_o rfl) rfl (by omega) (by rw [← hw123]; exact (e_up_ne _ _ (Or.inl (by omega))).trans rfl) (by omega) ?_
                      refine e_Ok.ast rfl (el_o rfl) rfl rfl (by omega) ?_
                      generalize hw127 : e_up w123 332 (900 * p1 + z2) (v2 332 (z2 + 3600)) = w127
                      have hH128 : e_Has hTy w127 := e_Has.ups hH124 hw127 rfl
                      have hT129 : e_Has mTy w127 := e_Has.upr hT125 hw127 rfl (by omega)
                      refine e_Ok.run (t' := (257, [(0, (1, 275)), (1, (0, p1)), (2, (0, z2))], [(1, 275)], w127)) 1 rfl ?_
                      refine e_Ok.getr (z := 333) rfl (el_o rfl) rfl rfl (by rw [← hw127]; exact (e_up_ne _ _ (Or.inl (by omega))).trans (by rw [← hw123]; exact (e_up_ne _ _ (Or.inl (by omega))).trans (e_Has.eq j87 rfl))) (by omega) ?_
                      refine e_Ok.run (t' := (264, [(0, (1, 275)), (1, (0, p1)), (2, (0, z2))], [(0, p1), (0, 900), (1, 333)], w127)) 2 rfl ?_
                      refine e_Ok.mul (z := 900 * p1) rfl (by omega) (by omega) ?_
                      refine e_Ok.run (t' := (266, [(0, (1, 275)), (1, (0, p1)), (2, (0, z2))], [(0, z2), (0, 900 * p1), (1, 333)], w127)) 1 rfl ?_
                      refine e_Ok.add (z := 900 * p1 + z2) rfl (by omega) (by omega) ?_
                      refine e_Ok.run (t' := (268, [(0, (1, 275)), (1, (0, p1)), (2, (0, z2))], [(1, 275), (0, 900 * p1 + z2), (1, 333)], w127)) 1 rfl ?_
                      refine e_Ok.getr (z := 333) rfl (el_o rfl) rfl rfl (by rw [← hw127]; exact (e_up_ne _ _ (Or.inl (by omega))).trans (by rw [← hw123]; exact (e_up_ne _ _ (Or.inl (by omega))).trans (e_Has.eq j87 rfl))) (by omega) ?_
                      refine e_Ok.run (t' := (275, [(0, (1, 275)), (1, (0, p1)), (2, (0, z2))], [(0, z2), (0, 3600), (1, 333), (0, 900 * p1 + z2), (1, 333)], w127)) 2 rfl ?_
                      refine e_Ok.add (z := z2 + 3600) rfl (by omega) (by omega) ?_
                      have h130 := (e_Has.get j87 (c := 333) (k := z2 + 3600) (lo := (-2147483648)) (hi := 2147483647) rfl (by decide))
                      refine e_Ok.ald (z := v2 333 (z2 + 3600)) rfl (el_o rfl) rfl (by omega) (by rw [← hw127]; exact (e_up_ne _ _ (Or.inl (by omega))).trans (by rw [← hw123]; exact (e_up_ne _ _ (Or.inl (by omega))).trans rfl)) (by omega) ?_
                      refine e_Ok.ast rfl (el_o rfl) rfl rfl (by omega) ?_
                      generalize hw131 : e_up w127 333 (900 * p1 + z2) (v2 333 (z2 + 3600)) = w131
                      have hH132 : e_Has hTy w131 := e_Has.ups hH128 hw131 rfl
                      have hT133 : e_Has mTy w131 := e_Has.upr hT129 hw131 rfl (by omega)
                      refine e_Ok.run (t' := (279, [(0, (1, 275)), (1, (0, p1)), (2, (0, z2))], [(1, 275)], w131)) 1 rfl ?_
                      refine e_Ok.getr (z := 334) rfl (el_o rfl) rfl rfl (by rw [← hw131]; exact (e_up_ne _ _ (Or.inl (by omega))).trans (by rw [← hw127]; exact (e_up_ne _ _ (Or.inl (by omega))).trans (by rw [← hw123]; exact (e_up_ne _ _ (Or.inl (by omega))).trans (e_Has.eq j87 rfl)))) (by omega) ?_
                      refine e_Ok.run (t' := (286, [(0, (1, 275)), (1, (0, p1)), (2, (0, z2))], [(0, p1), (0, 900), (1, 334)], w131)) 2 rfl ?_
                      refine e_Ok.mul (z := 900 * p1) rfl (by omega) (by omega) ?_
                      refine e_Ok.run (t' := (288, [(0, (1, 275)), (1, (0, p1)), (2, (0, z2))], [(0, z2), (0, 900 * p1), (1, 334)], w131)) 1 rfl ?_
                      refine e_Ok.add (z := 900 * p1 + z2) rfl (by omega) (by omega) ?_
                      refine e_Ok.run (t' := (290, [(0, (1, 275)), (1, (0, p1)), (2, (0, z2))], [(1, 275), (0, 900 * p1 + z2), (1, 334)], w131)) 1 rfl ?_
                      refine e_Ok.getr (z := 334) rfl (el_o rfl) rfl rfl (by rw [← hw131]; exact (e_up_ne _ _ (Or.inl (by omega))).trans (by rw [← hw127]; exact (e_up_ne _ _ (Or.inl (by omega))).trans (by rw [← hw123]; exact (e_up_ne _ _ (Or.inl (by omega))).trans (e_Has.eq j87 rfl)))) (by omega) ?_
                      refine e_Ok.run (t' := (297, [(0, (1, 275)), (1, (0, p1)), (2, (0, z2))], [(0, z2), (0, 3600), (1, 334), (0, 900 * p1 + z2), (1, 334)], w131)) 2 rfl ?_
                      refine e_Ok.add (z := z2 + 3600) rfl (by omega) (by omega) ?_
                      have h134 := (e_Has.get j87 (c := 334) (k := z2 + 3600) (lo := (-2147483648)) (hi := 2147483647) rfl (by decide))
                      refine e_Ok.ald (z := v2 334 (z2 + 3600)) rfl (el_o rfl) rfl (by omega) (by rw [← hw131]; exact (e_up_ne _ _ (Or.inl (by omega))).trans (by rw [← hw127]; exact (e_up_ne _ _ (Or.inl (by omega))).trans (by rw [← hw123]; exact (e_up_ne _ _ (Or.inl (by omega))).trans rfl))) (by omega) ?_
                      refine e_Ok.ast rfl (el_o rfl) rfl rfl (by omega) ?_
                      generalize hw135 : e_up w131 334 (900 * p1 + z2) (v2 334 (z2 + 3600)) = w135
                      have hH136 : e_Has hTy w135 := e_Has.ups hH132 hw135 rfl
                      have hT137 : e_Has mTy w135 := e_Has.upr hT133 hw135 rfl (by omega)
                      refine e_Ok.run (t' := (301, [(0, (1, 275)), (1, (0, p1)), (2, (0, z2))], [(1, 275)], w135)) 1 rfl ?_
                      refine e_Ok.getr (z := 335) rfl (el_o rfl) rfl rfl (by rw [← hw135]; exact (e_up_ne _ _ (Or.inl (by omega))).trans (by rw [← hw131]; exact (e_up_ne _ _ (Or.inl (by omega))).trans (by rw [← hw127]; exact (e_up_ne _ _ (Or.inl (by omega))).trans (by rw [← hw123]; exact (e_up_ne _ _ (Or.inl (by omega))).trans (e_Has.eq j87 rfl))))) (by omega) ?_
                      refine e_Ok.run (t' := (308, [(0, (1, 275)), (1, (0, p1)), (2, (0, z2))], [(0, p1), (0, 900), (1, 335)], w135)) 2 rfl ?_
                      refine e_Ok.mul (z := 900 * p1) rfl (by omega) (by omega) ?_
                      refine e_Ok.run (t' := (310, [(0, (1, 275)), (1, (0, p1)), (2, (0, z2))], [(0, z2), (0, 900 * p1), (1, 335)], w135)) 1 rfl ?_
                      refine e_Ok.add (z := 900 * p1 + z2) rfl (by omega) (by omega) ?_
                      refine e_Ok.run (t' := (312, [(0, (1, 275)), (1, (0, p1)), (2, (0, z2))], [(1, 275), (0, 900 * p1 + z2), (1, 335)], w135)) 1 rfl ?_
                      refine e_Ok.getr (z := 335) rfl (el_o rfl) rfl rfl (by rw [← hw135]; exact (e_up_ne _ _ (Or.inl (by omega))).trans (by rw [← hw131]; exact (e_up_ne _ _ (Or.inl (by omega))).trans (by rw [← hw127]; exact (e_up_ne _ _ (Or.inl (by omega))).trans (by rw [← hw123]; exact (e_up_ne _ _ (Or.inl (by omega))).trans (e_Has.eq j87 rfl))))) (by omega) ?_
                      refine e_Ok.run (t' := (319, [(0, (1, 275)), (1, (0, p1)), (2, (0, z2))], [(0, z2), (0, 3600), (1, 335), (0, 900 * p1 + z2), (1, 335)], w135)) 2 rfl ?_
                      refine e_Ok.add (z := z2 + 3600) rfl (by omega) (by omega) ?_
                      have h138 := (e_Has.get j87 (c := 335) (k := z2 + 3600) (lo := (-2147483648)) (hi := 2147483647) rfl (by decide))
                      refine e_Ok.ald (z := v2 335 (z2 + 3600)) rfl (el_o rfl) rfl (by omega) (by rw [← hw135]; exact (e_up_ne _ _ (Or.inl (by omega))).trans (by rw [← hw131]; exact (e_up_ne _ _ (Or.inl (by omega))).trans (by rw [← hw127]; exact (e_up_ne _ _ (Or.inl (by omega))).trans (by rw [← hw123]; exact (e_up_ne _ _ (Or.inl (by omega))).trans rfl)))) (by omega) ?_
                      refine e_Ok.ast rfl (el_o rfl) rfl rfl (by omega) ?_
                      generalize hw139 : e_up w135 335 (900 * p1 + z2) (v2 335 (z2 + 3600)) = w139
                      have hH140 : e_Has hTy w139 := e_Has.ups hH136 hw139 rfl
                      have hT141 : e_Has mTy w139 := e_Has.upr hT137 hw139 rfl (by omega)
                      refine e_Ok.run (t' := (323, [(0, (1, 275)), (1, (0, p1)), (2, (0, z2))], [(1, 275)], w139)) 1 rfl ?_
                      refine e_Ok.getr (z := 336) rfl (el_o rfl) rfl rfl (by rw [← hw139]; exact (e_up_ne _ _ (Or.inl (by omega))).trans (by rw [← hw135]; exact (e_up_ne _ _ (Or.inl (by omega))).trans (by rw [← hw131]; exact (e_up_ne _ _ (Or.inl (by omega))).trans (by rw [← hw127]; exact (e_up_ne _ _ (Or.inl (by omega))).trans (by rw [← hw123]; exact (e_up_ne _ _ (Or.inl (by omega))).trans (e_Has.eq j87 rfl)))))) (by omega) ?_
                      refine e_Ok.run (t' := (330, [(0, (1, 275)), (1, (0, p1)), (2, (0, z2))], [(0, p1), (0, 900), (1, 336)], w139)) 2 rfl ?_
                      refine e_Ok.mul (z := 900 * p1) rfl (by omega) (by omega) ?_
                      refine e_Ok.run (t' := (332, [(0, (1, 275)), (1, (0, p1)), (2, (0, z2))], [(0, z2), (0, 900 * p1), (1, 336)], w139)) 1 rfl ?_
                      refine e_Ok.add (z := 900 * p1 + z2) rfl (by omega) (by omega) ?_
                      refine e_Ok.run (t' := (334, [(0, (1, 275)), (1, (0, p1)), (2, (0, z2))], [(1, 275), (0, 900 * p1 + z2), (1, 336)], w139)) 1 rfl ?_
                      refine e_Ok.getr (z := 336) rfl (el_o rfl) rfl rfl (by rw [← hw139]; exact (e_up_ne _ _ (Or.inl (by omega))).trans (by rw [← hw135]; exact (e_up_ne _ _ (Or.inl (by omega))).trans (by rw [← hw131]; exact (e_up_ne _ _ (Or.inl (by omega))).trans (by rw [← hw127]; exact (e_up_ne _ _ (Or.inl (by omega))).trans (by rw [← hw123]; exact (e_up_ne _ _ (Or.inl (by omega))).trans (e_Has.eq j87 rfl)))))) (by omega) ?_
                      refine e_Ok.run (t' := (341, [(0, (1, 275)), (1, (0, p1)), (2, (0, z2))], [(0, z2), (0, 3600), (1, 336), (0, 900 * p1 + z2), (1, 336)], w139)) 2 rfl ?_
                      refine e_Ok.add (z := z2 + 3600) rfl (by omega) (by omega) ?_
                      have h142 := (e_Has.get j87 (c := 336) (k := z2 + 3600) (lo := (-2147483648)) (hi := 2147483647) rfl (by decide))
                      refine e_Ok.ald (z := v2 336 (z2 + 3600)) rfl (el_o rfl) rfl (by omega) (by rw [← hw139]; exact (e_up_ne _ _ (Or.inl (by omega))).trans (by rw [← hw135]; exact (e_up_ne _ _ (Or.inl (by omega))).trans (by rw [← hw131]; exact (e_up_ne _ _ (Or.inl (by omega))).trans (by rw [← hw127]; exact (e_up_ne _ _ (Or.inl (by omega))).trans (by rw [← hw123]; exact (e_up_ne _ _ (Or.inl (by omega))).trans rfl))))) (by omega) ?_
                      refine e_Ok.ast rfl (el_o rfl) rfl rfl (by omega) ?_
                      generalize hw143 : e_up w139 336 (900 * p1 + z2) (v2 336 (z2 + 3600)) = w143
                      have hH144 : e_Has hTy w143 := e_Has.ups hH140 hw143 rfl
                      have hT145 : e_Has mTy w143 := e_Has.upr hT141 hw143 rfl (by omega)
                      refine e_Ok.inc (z := z2 + 1) rfl rfl (by omega) (by omega) ?_
                      show e_Ok 20 elay ecode eI (d + 1) 357 (347, [(2, (0, z2 + 1)), (0, (1, 275)), (1, (0, p1))], [], w143) _
                      refine e_Ok.run (t' := (205, [(2, (0, z2 + 1)), (0, (1, 275)), (1, (0, p1))], [], w143)) 1 rfl ?_
                      refine e_Ok.sub eAlk (e_sub_of rfl ?_) (ih85 (z2 + 1) w143 ⟨(cp6.next j86 (by omega) (by omega) hw123 hw127 hw131 hw135 hw139 hw143), hT145, hH144, by omega⟩ (by omega))
                      exact ⟨rfl, rfl, rfl, trivial⟩
                refine e_Ok.sub eAlk (e_sub_of rfl ?_) (hL84 (901 + 1 : Int).toNat 0 v1 ⟨(cp6.zero _ _), j80, j81, by omega⟩ (by omega))
                exact ⟨rfl, rfl, rfl, trivial⟩
              · replace h83 : (y2 : Int) < w66 275 78 := by have q : ¬ ((y2 : Int) ≥ w66 275 78) := h83; omega
                refine e_Ok.run (t' := (132, [(0, (1, 275)), (1, (0, p1)), (2, (0, y2))], [(1, 275)], v1)) 1 rfl ?_
                refine e_Ok.getr (z := 328) rfl (el_o rfl) rfl rfl (e_Has.eq j80 rfl) (by omega) ?_
                refine e_Ok.run (t' := (139, [(0, (1, 275)), (1, (0, p1)), (2, (0, y2))], [(0, p1), (0, 10000), (1, 328)], v1)) 2 rfl ?_
                refine e_Ok.mul (z := 10000 * p1) rfl (by omega) (by omega) ?_
                refine e_Ok.run (t' := (141, [(0, (1, 275)), (1, (0, p1)), (2, (0, y2))], [(0, y2), (0, 10000 * p1), (1, 328)], v1)) 1 rfl ?_
                refine e_Ok.add (z := 10000 * p1 + y2) rfl (by omega) (by omega) ?_
                refine e_Ok.run (t' := (143, [(0, (1, 275)), (1, (0, p1)), (2, (0, y2))], [(1, 275), (0, 10000 * p1 + y2), (1, 328)], v1)) 1 rfl ?_
                refine e_Ok.getr (z := 328) rfl (el_o rfl) rfl rfl (e_Has.eq j80 rfl) (by omega) ?_
                refine e_Ok.run (t' := (150, [(0, (1, 275)), (1, (0, p1)), (2, (0, y2))], [(0, y2), (0, 40000), (1, 328), (0, 10000 * p1 + y2), (1, 328)], v1)) 2 rfl ?_
                refine e_Ok.add (z := y2 + 40000) rfl (by omega) (by omega) ?_
                have h146 := (e_Has.get j80 (c := 328) (k := y2 + 40000) (lo := (-2147483648)) (hi := 2147483647) rfl (by decide))
                refine e_Ok.ald (z := v1 328 (y2 + 40000)) rfl (el_o rfl) rfl (by omega) rfl (by omega) ?_
                refine e_Ok.ast rfl (el_o rfl) rfl rfl (by omega) ?_
                generalize hw147 : e_up v1 328 (10000 * p1 + y2) (v1 328 (y2 + 40000)) = w147
                have hH148 : e_Has hTy w147 := e_Has.ups j81 hw147 rfl
                have hT149 : e_Has mTy w147 := e_Has.upr j80 hw147 rfl (by omega)
                refine e_Ok.run (t' := (154, [(0, (1, 275)), (1, (0, p1)), (2, (0, y2))], [(1, 275)], w147)) 1 rfl ?_
                refine e_Ok.getr (z := 329) rfl (el_o rfl) rfl rfl (by rw [← hw147]; exact (e_up_ne _ _ (Or.inl (by omega))).trans (e_Has.eq j80 rfl)) (by omega) ?_
                refine e_Ok.run (t' := (161, [(0, (1, 275)), (1, (0, p1)), (2, (0, y2))], [(0, p1), (0, 10000), (1, 329)], w147)) 2 rfl ?_
                refine e_Ok.mul (z := 10000 * p1) rfl (by omega) (by omega) ?_
                refine e_Ok.run (t' := (163, [(0, (1, 275)), (1, (0, p1)), (2, (0, y2))], [(0, y2), (0, 10000 * p1), (1, 329)], w147)) 1 rfl ?_
                refine e_Ok.add (z := 10000 * p1 + y2) rfl (by omega) (by omega) ?_
                refine e_Ok.run (t' := (165, [(0, (1, 275)), (1, (0, p1)), (2, (0, y2))], [(1, 275), (0, 10000 * p1 + y2), (1, 329)], w147)) 1 rfl ?_
                refine e_Ok.getr (z := 329) rfl (el_o rfl) rfl rfl (by rw [← hw147]; exact (e_up_ne _ _ (Or.inl (by omega))).trans (e_Has.eq j80 rfl)) (by omega) ?_
                refine e_Ok.run (t' := (172, [(0, (1, 275)), (1, (0, p1)), (2, (0, y2))], [(0, y2), (0, 40000), (1, 329), (0, 10000 * p1 + y2), (1, 329)], w147)) 2 rfl ?_
                refine e_Ok.add (z := y2 + 40000) rfl (by omega) (by omega) ?_
                have h150 := (e_Has.get j80 (c := 329) (k := y2 + 40000) (lo := (-2147483648)) (hi := 2147483647) rfl (by decide))
                refine e_Ok.ald (z := v1 329 (y2 + 40000)) rfl (el_o rfl) rfl (by omega) (by rw [← hw147]; exact (e_up_ne _ _ (Or.inl (by omega))).trans rfl) (by omega) ?_
                refine e_Ok.ast rfl (el_o rfl) rfl rfl (by omega) ?_
                generalize hw151 : e_up w147 329 (10000 * p1 + y2) (v1 329 (y2 + 40000)) = w151
                have hH152 : e_Has hTy w151 := e_Has.ups hH148 hw151 rfl
                have hT153 : e_Has mTy w151 := e_Has.upr hT149 hw151 rfl (by omega)
                refine e_Ok.run (t' := (176, [(0, (1, 275)), (1, (0, p1)), (2, (0, y2))], [(1, 275)], w151)) 1 rfl ?_
                refine e_Ok.getr (z := 330) rfl (el_o rfl) rfl rfl (by rw [← hw151]; exact (e_up_ne _ _ (Or.inl (by omega))).trans (by rw [← hw147]; exact (e_up_ne _ _ (Or.inl (by omega))).trans (e_Has.eq j80 rfl))) (by omega) ?_
                refine e_Ok.run (t' := (183, [(0, (1, 275)), (1, (0, p1)), (2, (0, y2))], [(0, p1), (0, 10000), (1, 330)], w151)) 2 rfl ?_
                refine e_Ok.mul (z := 10000 * p1) rfl (by omega) (by omega) ?_
                refine e_Ok.run (t' := (185, [(0, (1, 275)), (1, (0, p1)), (2, (0, y2))], [(0, y2), (0, 10000 * p1), (1, 330)], w151)) 1 rfl ?_
                refine e_Ok.add (z := 10000 * p1 + y2) rfl (by omega) (by omega) ?_
                refine e_Ok.run (t' := (187, [(0, (1, 275)), (1, (0, p1)), (2, (0, y2))], [(1, 275), (0, 10000 * p1 + y2), (1, 330)], w151)) 1 rfl ?_
                refine e_Ok.getr (z := 330) rfl (el_o rfl) rfl rfl (by rw [← hw151]; exact (e_up_ne _ _ (Or.inl (by omega))).trans (by rw [← hw147]; exact (e_up_ne _ _ (Or.inl (by omega))).trans (e_Has.eq j80 rfl))) (by omega) ?_
                refine e_Ok.run (t' := (194, [(0, (1, 275)), (1, (0, p1)), (2, (0, y2))], [(0, y2), (0, 40000), (1, 330), (0, 10000 * p1 + y2), (1, 330)], w151)) 2 rfl ?_
                refine e_Ok.add (z := y2 + 40000) rfl (by omega) (by omega) ?_
                have h154 := (e_Has.get j80 (c := 330) (k := y2 + 40000) (lo := (-2147483648)) (hi := 2147483647) rfl (by decide))
                refine e_Ok.ald (z := v1 330 (y2 + 40000)) rfl (el_o rfl) rfl (by omega) (by rw [← hw151]; exact (e_up_ne _ _ (Or.inl (by omega))).trans (by rw [← hw147]; exact (e_up_ne _ _ (Or.inl (by omega))).trans rfl)) (by omega) ?_
                refine e_Ok.ast rfl (el_o rfl) rfl rfl (by omega) ?_
                generalize hw155 : e_up w151 330 (10000 * p1 + y2) (v1 330 (y2 + 40000)) = w155
                have hH156 : e_Has hTy w155 := e_Has.ups hH152 hw155 rfl
                have hT157 : e_Has mTy w155 := e_Has.upr hT153 hw155 rfl (by omega)
                refine e_Ok.inc (z := y2 + 1) rfl rfl (by omega) (by omega) ?_
                show e_Ok 20 elay ecode eI (d + 1) 357 (200, [(2, (0, y2 + 1)), (0, (1, 275)), (1, (0, p1))], [], w155) _
                refine e_Ok.run (t' := (123, [(2, (0, y2 + 1)), (0, (1, 275)), (1, (0, p1))], [], w155)) 1 rfl ?_
                refine e_Ok.sub eAlk (e_sub_of rfl ?_) (ih78 (y2 + 1) w155 ⟨(cp3.next j79 (by omega) (by omega) hw147 hw151 hw155), hT157, hH156, by omega⟩ (by omega))
                exact ⟨rfl, rfl, rfl, trivial⟩
          refine e_Ok.sub eAlk (e_sub_of rfl ?_) (hL77 (9901 + 1 : Int).toNat 0 w71 ⟨(cp3.zero _ _), hT74, hH73, by omega⟩ (by omega))
          exact ⟨rfl, rfl, rfl, trivial⟩
        · replace h76 : (w69 275 88 : Int) ≠ 0 := by have q : ¬ ((w69 275 88 : Int) = 0) := h76; omega
          refine e_Ok.run (t' := (116, [(0, (1, 275)), (1, (0, p1))], [(1, 275), (0, (-10))], w71)) 2 rfl ?_
          have h158 := (e_Has.get rH (c := 275) (k := 89) (lo := (-2147483648)) (hi := 2147483647) rfl (by decide))
          refine e_Ok.getf (z := w69 275 89) rfl (el_o rfl) rfl rfl (by rw [← hw71]; exact (e_up_ne _ _ (Or.inr (by omega))).trans rfl) (by omega) ?_
          refine e_Ok.any rfl (eF_sub_any _ _) (fun z159 z159a z159b => ?_)
          refine e_Ok.rets rfl rfl ?_
          exact ⟨_, rfl, Or.inr ⟨by omega, by omega, e_fr.mono f72 (fun c k g => Or.inl g), hT74, hH73, (by rw [← hw71]; exact e_up_eq _ _ _ _), Or.inl (mPs.ps (by omega) f72)⟩⟩
      · replace h8 : (w 275 3 : Int) ≠ 0 := by have q : ¬ ((w 275 3 : Int) = 0) := h8; omega
        refine e_Ok.run (t' := (19, [(0, (1, 275)), (1, (0, p1))], [(0, (-2))], w)) 1 rfl ?_
        refine e_Ok.rets rfl rfl ?_
        exact ⟨_, rfl, Or.inl ⟨rfl, by omega⟩⟩
    · replace h7 : (1 : Int) = 0 := by have q : ¬ ((1 : Int) ≠ 0) := h7; omega
      exfalso; omega
  · show e_Ok 20 elay ecode eI (d + 1) 357 (5, [(0, (1, 275)), (1, (0, p1))], [(0, 0)], w) _
    refine e_Ok.if1 rfl (fun h160 => ?_) (fun h160 => ?_)
    · replace h160 : (0 : Int) ≠ 0 := h160
      exfalso; omega
    · replace h160 : (0 : Int) = 0 := by have q : ¬ ((0 : Int) ≠ 0) := h160; omega
      refine e_Ok.run (t' := (9, [(0, (1, 275)), (1, (0, p1))], [(0, (-1))], w)) 1 rfl ?_
      refine e_Ok.rets rfl rfl ?_
      exact ⟨_, rfl, Or.inl ⟨rfl, by omega⟩⟩
end
end
-- part bo
section
noncomputable section
/-! a program that is read keeps what a cell that is built keeps -/
def bInvP (w : eW) (G : Int → Gh) : Prop := bInv w G ∧ ∀ a, 0 ≤ a → a ≤ 3 → ∀ r v, (G a).br r v → 0 ≤ v ∧ v < (G a).nw
theorem newOk.bInvP {w : eW} (hT : e_Has mTy w) (h : newOk w) : bInvP w G0 := ⟨newOk.bInv hT h, fun a _ _ r v g => False.elim g⟩
theorem no_bo_0 {a : Int} {k : Int} : ¬ mPg a 310 k := by unfold mPg mPs; omega
theorem no_bo_1 {a : Int} {k : Int} : ¬ mPg a 286 k := by unfold mPg mPs; omega
theorem bInv.gs {w w' : eW} {G G' : Int → Gh} {a : Int} (h : bInv w G) (ha : 0 ≤ a ∧ a ≤ 3) (hF : e_fr (mPg a) w w') (hT : e_Has mTy w') (hg : gAll w' G') : bInv w' G' := by
  obtain ⟨h1, h2, h3, h4, h5, h6, h7, h8⟩ := h
  have e10 : w' 275 10 = w 275 10 := hF _ _ (by unfold mPg mPs; omega)
  have e40 : w' 275 40 = w 275 40 := hF _ _ (by unfold mPg mPs; omega)
  have e42 : w' 275 42 = w 275 42 := hF _ _ (by unfold mPg mPs; omega)
  have hp := e_Has.get h1 (c := 275) (k := 40) (lo := 0) (hi := 32) rfl (by decide)
  refine ⟨hT, mAc.fr' (fun k q => by unfold mPg mPs at q; omega) hF h2, mCf.fr h3 (fun c k q => hF c k (by unfold mPg mPs; omega)), fun z g1 g2 => ?_, fun b g1 g2 => ?_, by rw [e40]; exact mOr.fr h6 hp.2 (e_Has.orn h1) (e_Has.orw h1 hp.2) (fun k q => hF 276 k (by unfold orK at q; unfold mPg mPs; omega)), hg, h8.fr (fun k q => hF 276 k (by unfold mPg mPs; omega))⟩
  · rw [hF 310 z (by first | exact no_bo_0 | (unfold mPg mPs; omega)), e10]
    exact h4 z g1 (by rw [e42] at g2; exact g2)
  · rw [hF 286 b (by first | exact no_bo_1 | (unfold mPg mPs; omega))]
    exact h5 b (by rw [e10] at g1; exact g1) g2
def gNew (n nt nw : Int) (dl sg pi en : Int → Int) (an br : Int → Int → Prop) : Gh := ((n, nt, nw), (dl, sg, pi, en), (an, br))
def gUp (G : Int → Gh) (a : Int) (g : Gh) (b : Int) : Gh := if b = a then g else G b
theorem gUp_eq (G : Int → Gh) (a : Int) (g : Gh) : gUp G a g a = g := if_pos rfl
theorem gUp_ne (G : Int → Gh) {a b : Int} (g : Gh) (h : b ≠ a) : gUp G a g b = G b := if_neg h
theorem bInvP.prog {w w' : eW} {G : Int → Gh} {a : Int} (h : bInvP w G) (ha : 0 ≤ a ∧ a ≤ 3) (hF : e_fr (mPg a) w w') (hT : e_Has mTy w') (hc : prS w w' a ∨ ∃ (n' nt' nw' : Int) (dl sg pi en : Int → Int) (an br : Int → Int → Prop), cOk w' a n' nt' nw' dl sg pi en an br ∧ ∀ r q, br r q → 0 ≤ q ∧ q < nw') : ∃ G', bInvP w' G' := by
  have hg : gAll w G := h.1.2.2.2.2.2.2.1
  have h32 : ∀ b, 0 ≤ b → b ≤ 3 → w 338 b ≤ 32 := fun b _ _ => (e_Has.get h.1.1 (c := 338) (k := b) (lo := 0) (hi := 32) rfl (by decide)).2
  have ho : ∀ b, 0 ≤ b → b ≤ 3 → prS w w' b → gC w' G b := fun b b1 b2 e => cOk.ps e (h32 b b1 b2) (h.2 b b1 b2) (hg b b1 b2)
  rcases hc with hc | ⟨n', nt', nw', dl, sg, pi, en, an, br, hk, hb⟩
  · refine ⟨G, h.1.gs ha hF hT (fun b b1 b2 => ?_), h.2⟩
    by_cases c : a = b
    · subst c
      exact ho a b1 b2 hc
    · exact ho b b1 b2 (mPg.ps ha ⟨b1, b2⟩ c hF)
  · refine ⟨gUp G a (gNew n' nt' nw' dl sg pi en an br), h.1.gs ha hF hT (fun b b1 b2 => ?_), fun b b1 b2 r v => ?_⟩
    · by_cases c : b = a
      · subst c
        unfold gC
        rw [gUp_eq]
        exact hk
      · have q := ho b b1 b2 (mPg.ps ha ⟨b1, b2⟩ (fun e => c e.symm) hF)
        unfold gC at q ⊢
        rw [gUp_ne G _ c]
        exact q
    · by_cases c : b = a
      · subst c
        rw [gUp_eq]
        exact hb r v
      · rw [gUp_ne G _ c]
        exact h.2 b b1 b2 r v
end
end
-- part bp
section
noncomputable section
/-! what the model keeps from call to call: building -/
theorem hTy_none {c k : Int} (h : 282 ≤ c ∧ c ≤ 353) : hTy c k = (1, 0) := by
  have q : ∀ i, i < 72 → x_nthP hArr (i + 5) = (1, 0) := by decide
  have e : c.toNat - 275 = ((c - 282).toNat + 5) + 2 := by omega
  unfold hTy
  rw [e]
  exact q _ (by omega)
def mRel (w : eW) : Prop := e_Has mTy w ∧ e_Has hTy w ∧ (w 275 6 = 0 ∧ (w 275 3 = 0 → w 275 5 = 0)) ∧ ((w 275 3 = 0 ∧ ∃ G, bInvP w G) ∨ (w 275 3 = 1 ∧ ∃ G S, bkI w G S))
/-- what the tape, the arms and 'open' have to do with: as they were -/
def sm3 (w w' : eW) : Prop := w' 275 3 = w 275 3 ∧ w' 275 9 = w 275 9 ∧ w' 275 10 = w 275 10
theorem hT_F {w w' : eW} {f a b : Int} (hF : e_fr (mF f a b) w w') (h : e_Has hTy w) (hf : f = -1 ∨ f = 10 ∨ f = 23 ∨ f = 30 ∨ f = 42 ∨ f = 49) (hab : 282 ≤ a ∧ b ≤ 340) : e_Has hTy w' := h.fr (fun c k q => by
  rcases q with ⟨rfl, rfl⟩ | q
  · rcases hf with rfl | rfl | rfl | rfl | rfl | rfl <;> rfl
  · exact hTy_none (by omega)) hF
theorem mRel.bld {w w' : eW} {f a b : Int} (h : mRel w) (ho : w 275 3 = 0) (hF : e_fr (mF f a b) w w') (hT : e_Has mTy w') (hf : f = -1 ∨ f = 10 ∨ f = 23 ∨ f = 30 ∨ f = 42 ∨ f = 49) (hab : 282 ≤ a ∧ b ≤ 340) (hI : ∀ G, bInv w G → bInv w' G) : mRel w' ∧ w' 275 3 = w 275 3 ∧ w' 275 9 = w 275 9 := by
  obtain ⟨h1, h2, h3, h4⟩ := h
  have e3 : w' 275 3 = w 275 3 := hF 275 3 (by unfold mF; omega)
  refine ⟨⟨hT, hT_F hF h2 hf hab, ⟨(hF 275 6 (by unfold mF; omega)).trans h3.1, fun _ => (hF 275 5 (by unfold mF; omega)).trans (h3.2 ho)⟩, ?_⟩, e3, hF 275 9 (by unfold mF; omega)⟩
  rcases h4 with ⟨-, G, g⟩ | ⟨g, -⟩
  · exact Or.inl ⟨e3.trans ho, G, hI G g.1, g.2⟩
  · omega
theorem mRel.alt {w w' : eW} {f a b : Int} {E : Prop} (h : mRel w) (q : w = w' ∨ (w 275 3 = 0 ∧ e_fr (mF f a b) w w' ∧ e_Has mTy w' ∧ E)) (hf : f = -1 ∨ f = 23 ∨ f = 30 ∨ f = 42 ∨ f = 49) (hab : 282 ≤ a ∧ b ≤ 340) (hI : ∀ G, E → e_Has mTy w' → e_fr (mF f a b) w w' → bInv w G → bInv w' G) : mRel w' ∧ sm3 w w' := by
  rcases q with rfl | ⟨q1, q2, q3, q4⟩
  · exact ⟨h, rfl, rfl, rfl⟩
  · obtain ⟨r1, r2, r3⟩ := h.bld q1 q2 q3 (by omega) hab (fun G g => hI G q4 q3 q2 g)
    exact ⟨r1, r2, r3, q2 275 10 (by unfold mF; omega)⟩
theorem m_280 {d : Nat} (hd : 24 ≤ d) {w : eW} (h : mRel w) {p1 p2 p3 : Int} (g1 : -2147483648 ≤ p1 ∧ p1 ≤ 2147483647) (g2 : -2147483648 ≤ p2 ∧ p2 ≤ 2147483647) (g3 : -2147483648 ≤ p3 ∧ p3 ≤ 2147483647) : e_Ok 20 elay ecode eI d 280 (0, [(0, (1, 275)), (1, (0, p1)), (2, (0, p2)), (3, (0, p3))], [], w) (fun r w' => ∃ z : Int, r = [(0, z)] ∧ mRel w' ∧ sm3 w w') :=
  (c_280_b hd h.1 g1 g2 g3).imp (fun r w' q => by
    obtain ⟨z, hr, q⟩ := q
    exact ⟨z, hr, h.alt q (by decide) (by decide) (fun G _ hT hF g => g.cfg hF hT (fun c k y => by unfold mF at y; unfold cfN; omega))⟩)
theorem m_281 {d : Nat} (hd : 24 ≤ d) {w : eW} (h : mRel w) {p1 p2 p3 p4 : Int} (g1 : -2147483648 ≤ p1 ∧ p1 ≤ 2147483647) (g2 : -2147483648 ≤ p2 ∧ p2 ≤ 2147483647) (g3 : -2147483648 ≤ p3 ∧ p3 ≤ 2147483647) (g4 : -2147483648 ≤ p4 ∧ p4 ≤ 2147483647) : e_Ok 20 elay ecode eI d 281 (0, [(0, (1, 275)), (1, (0, p1)), (2, (0, p2)), (3, (0, p3)), (4, (0, p4))], [], w) (fun r w' => ∃ z : Int, r = [(0, z)] ∧ mRel w' ∧ sm3 w w') :=
  (c_281_b hd h.1 g1 g2 g3 g4).imp (fun r w' q => by
    obtain ⟨z, hr, q⟩ := q
    exact ⟨z, hr, h.alt q (by decide) (by decide) (fun G e hT hF g => g.pace hF hT e)⟩)
theorem m_285 {d : Nat} (hd : 24 ≤ d) {w : eW} (h : mRel w) {p1 p2 p3 : Int} (g1 : -2147483648 ≤ p1 ∧ p1 ≤ 2147483647) (g2 : -2147483648 ≤ p2 ∧ p2 ≤ 2147483647) (g3 : -2147483648 ≤ p3 ∧ p3 ≤ 2147483647) : e_Ok 20 elay ecode eI d 285 (0, [(0, (1, 275)), (1, (0, p1)), (2, (0, p2)), (3, (0, p3))], [], w) (fun r w' => ∃ z : Int, r = [(0, z)] ∧ mRel w' ∧ sm3 w w') :=
  (c_285_b hd h.1 g1 g2 g3).imp (fun r w' q => by
    obtain ⟨z, hr, q⟩ := q
    exact ⟨z, hr, h.alt q (by decide) (by decide) (fun G _ hT hF g => g.cfg hF hT (fun c k y => by unfold mF at y; unfold cfN; omega))⟩)
theorem m_286 {d : Nat} (hd : 24 ≤ d) {w : eW} (h : mRel w) {p1 p2 p3 p4 p5 : Int} (g1 : -2147483648 ≤ p1 ∧ p1 ≤ 2147483647) (g2 : -2147483648 ≤ p2 ∧ p2 ≤ 2147483647) (g3 : -2147483648 ≤ p3 ∧ p3 ≤ 2147483647) (g4 : -2147483648 ≤ p4 ∧ p4 ≤ 2147483647) (g5 : -2147483648 ≤ p5 ∧ p5 ≤ 2147483647) : e_Ok 20 elay ecode eI d 286 (0, [(0, (1, 275)), (1, (0, p1)), (2, (0, p2)), (3, (0, p3)), (4, (0, p4)), (5, (0, p5))], [], w) (fun r w' => ∃ z : Int, r = [(0, z)] ∧ mRel w' ∧ sm3 w w') :=
  (c_286_b hd h.1 g1 g2 g3 g4 g5).imp (fun r w' q => by
    obtain ⟨z, hr, q⟩ := q
    exact ⟨z, hr, h.alt q (by decide) (by decide) (fun G _ hT hF g => g.cfg hF hT (fun c k y => by unfold mF at y; unfold cfN; omega))⟩)
theorem m_287 {d : Nat} (hd : 24 ≤ d) {w : eW} (h : mRel w) {p1 p2 : Int} (g1 : -2147483648 ≤ p1 ∧ p1 ≤ 2147483647) (g2 : -2147483648 ≤ p2 ∧ p2 ≤ 2147483647) : e_Ok 20 elay ecode eI d 287 (0, [(0, (1, 275)), (1, (0, p1)), (2, (0, p2))], [], w) (fun r w' => ∃ z : Int, r = [(0, z)] ∧ mRel w' ∧ sm3 w w') :=
  (c_287_b hd h.1 g1 g2).imp (fun r w' q => by
    obtain ⟨z, hr, q⟩ := q
    exact ⟨z, hr, h.alt q (by decide) (by decide) (fun G _ hT hF g => g.cfg hF hT (fun c k y => by unfold mF at y; unfold cfN; omega))⟩)
theorem m_288 {d : Nat} (hd : 24 ≤ d) {w : eW} (h : mRel w) {p1 p2 p3 p4 : Int} (g1 : -2147483648 ≤ p1 ∧ p1 ≤ 2147483647) (g2 : -2147483648 ≤ p2 ∧ p2 ≤ 2147483647) (g3 : -2147483648 ≤ p3 ∧ p3 ≤ 2147483647) (g4 : -2147483648 ≤ p4 ∧ p4 ≤ 2147483647) : e_Ok 20 elay ecode eI d 288 (0, [(0, (1, 275)), (1, (0, p1)), (2, (0, p2)), (3, (0, p3)), (4, (0, p4))], [], w) (fun r w' => ∃ z : Int, r = [(0, z)] ∧ mRel w' ∧ sm3 w w') :=
  (c_288_b hd h.1 g1 g2 g3 g4).imp (fun r w' q => by
    obtain ⟨z, hr, q⟩ := q
    exact ⟨z, hr, h.alt q (by decide) (by decide) (fun G _ hT hF g => g.cfg hF hT (fun c k y => by unfold mF at y; unfold cfN; omega))⟩)
theorem m_291 {d : Nat} (hd : 24 ≤ d) {w : eW} (h : mRel w) {p1 p2 p3 p4 p5 : Int} (g1 : -2147483648 ≤ p1 ∧ p1 ≤ 2147483647) (g2 : -2147483648 ≤ p2 ∧ p2 ≤ 2147483647) (g3 : -2147483648 ≤ p3 ∧ p3 ≤ 2147483647) (g4 : -2147483648 ≤ p4 ∧ p4 ≤ 2147483647) (g5 : -2147483648 ≤ p5 ∧ p5 ≤ 2147483647) : e_Ok 20 elay ecode eI d 291 (0, [(0, (1, 275)), (1, (0, p1)), (2, (0, p2)), (3, (0, p3)), (4, (0, p4)), (5, (0, p5))], [], w) (fun r w' => ∃ z : Int, r = [(0, z)] ∧ mRel w' ∧ sm3 w w') :=
  (c_291_b hd h.1 g1 g2 g3 g4 g5).imp (fun r w' q => by
    obtain ⟨z, hr, q⟩ := q
    exact ⟨z, hr, h.alt q (by decide) (by decide) (fun G e hT hF g => g.zone hF hT e)⟩)
theorem m_292 {d : Nat} (hd : 24 ≤ d) {w : eW} (h : mRel w) {p1 p2 : Int} (g1 : -2147483648 ≤ p1 ∧ p1 ≤ 2147483647) (g2 : -2147483648 ≤ p2 ∧ p2 ≤ 2147483647) : e_Ok 20 elay ecode eI d 292 (0, [(0, (1, 275)), (1, (0, p1)), (2, (0, p2))], [], w) (fun r w' => ∃ z : Int, r = [(0, z)] ∧ mRel w' ∧ sm3 w w') :=
  (c_292_b hd h.1 g1 g2).imp (fun r w' q => by
    obtain ⟨z, hr, q⟩ := q
    exact ⟨z, hr, h.alt q (by decide) (by decide) (fun G _ hT hF g => g.cfg hF hT (fun c k y => by unfold mF at y; unfold cfN; omega))⟩)
theorem m_293 {d : Nat} (hd : 24 ≤ d) {w : eW} (h : mRel w) {p1 : Int} (g1 : -2147483648 ≤ p1 ∧ p1 ≤ 2147483647) : e_Ok 20 elay ecode eI d 293 (0, [(0, (1, 275)), (1, (0, p1))], [], w) (fun r w' => ∃ z : Int, r = [(0, z)] ∧ mRel w' ∧ sm3 w w') :=
  (c_293_b hd h.1 g1).imp (fun r w' q => by
    obtain ⟨z, hr, q⟩ := q
    exact ⟨z, hr, h.alt q (by decide) (by decide) (fun G _ hT hF g => g.cfg hF hT (fun c k y => by unfold mF at y; unfold cfN; omega))⟩)
theorem m_294 {d : Nat} (hd : 24 ≤ d) {w : eW} (h : mRel w) {p1 p2 : Int} (g1 : -2147483648 ≤ p1 ∧ p1 ≤ 2147483647) (g2 : 0 ≤ p2 ∧ p2 ≤ 1) : e_Ok 20 elay ecode eI d 294 (0, [(0, (1, 275)), (1, (0, p1)), (2, (0, p2))], [], w) (fun r w' => ∃ z : Int, r = [(0, z)] ∧ mRel w' ∧ sm3 w w') :=
  (c_294_b hd h.1 g1 g2).imp (fun r w' q => by
    obtain ⟨z, hr, q⟩ := q
    exact ⟨z, hr, h.alt q (by decide) (by decide) (fun G _ hT hF g => g.cfg hF hT (fun c k y => by unfold mF at y; unfold cfN; omega))⟩)
theorem m_283 {d : Nat} (hd : 26 ≤ d) {w : eW} (h : mRel w) {p1 p2 p3 : Int} (g1 : -2147483648 ≤ p1 ∧ p1 ≤ 2147483647) (g2 : -2147483648 ≤ p2 ∧ p2 ≤ 2147483647) (g3 : -2147483648 ≤ p3 ∧ p3 ≤ 2147483647) : e_Ok 20 elay ecode eI d 283 (0, [(0, (1, 275)), (1, (0, p1)), (2, (0, p2)), (3, (0, p3))], [], w) (fun r w' => ∃ z : Int, r = [(0, z)] ∧ mRel w' ∧ sm3 w w') :=
  (c_283_b hd h.1 g1 g2 g3).imp (fun r w' q => by
    obtain ⟨z, hr, q⟩ := q
    exact ⟨z, hr, h.alt q (by decide) (by decide) (fun G _ hT hF g => g.cfg hF hT (fun c k y => by unfold mF at y; unfold cfN; omega))⟩)
theorem m_284 {d : Nat} (hd : 26 ≤ d) {w : eW} (h : mRel w) {p1 p2 p3 p4 : Int} (g1 : -2147483648 ≤ p1 ∧ p1 ≤ 2147483647) (g2 : -2147483648 ≤ p2 ∧ p2 ≤ 2147483647) (g3 : -2147483648 ≤ p3 ∧ p3 ≤ 2147483647) (g4 : -2147483648 ≤ p4 ∧ p4 ≤ 2147483647) : e_Ok 20 elay ecode eI d 284 (0, [(0, (1, 275)), (1, (0, p1)), (2, (0, p2)), (3, (0, p3)), (4, (0, p4))], [], w) (fun r w' => ∃ z : Int, r = [(0, z)] ∧ mRel w' ∧ sm3 w w') :=
  (c_284_b hd h.1 g1 g2 g3 g4).imp (fun r w' q => by
    obtain ⟨z, hr, q⟩ := q
    exact ⟨z, hr, h.alt q (by decide) (by decide) (fun G _ hT hF g => g.cfg hF hT (fun c k y => by unfold mF at y; unfold cfN; omega))⟩)
theorem m_278 {d : Nat} (hd : 24 ≤ d) {w : eW} (h : mRel w) {p1 p2 p3 p4 : Int} (g1 : -2147483648 ≤ p1 ∧ p1 ≤ 2147483647) (g2 : -2147483648 ≤ p2 ∧ p2 ≤ 2147483647) (g3 : -2147483648 ≤ p3 ∧ p3 ≤ 2147483647) (g4 : -2147483648 ≤ p4 ∧ p4 ≤ 2147483647) : e_Ok 20 elay ecode eI d 278 (0, [(0, (1, 275)), (1, (0, p1)), (2, (0, p2)), (3, (0, p3)), (4, (0, p4))], [], w) (fun r w' => ∃ z : Int, r = [(0, z)] ∧ mRel w' ∧ w' 275 3 = w 275 3 ∧ w' 275 9 = w 275 9 ∧ (w' 275 10 = w 275 10 ∨ (w 275 3 = 0 ∧ w' 275 10 = w 275 10 + 1))) :=
  (c_278_b hd h.1 g1 g2 g3 g4).imp (fun r w' q => by
    obtain ⟨z, hr, q⟩ := q
    rcases q with rfl | ⟨q1, q2, q3, q4⟩
    · exact ⟨z, hr, h, rfl, rfl, Or.inl rfl⟩
    · obtain ⟨r1, r2, r3⟩ := h.bld q1 q2 q3 (by decide) (by decide) (fun G g => g.arm q2 q3 q4)
      exact ⟨z, hr, r1, r2, r3, Or.inr ⟨q1, q4⟩⟩)
/-- program -/
theorem no_bp_0 {a : Int} : ¬ mPg a 275 3 := by unfold mPg mPs; omega
theorem no_bp_1 {a : Int} : ¬ mPg a 275 6 := by unfold mPg mPs; omega
theorem no_bp_2 {a : Int} : ¬ mPg a 275 5 := by unfold mPg mPs; omega
theorem no_bp_3 {a : Int} : ¬ mPg a 275 10 := by unfold mPg mPs; omega
theorem m_357 {d : Nat} (hd : 424 ≤ d) {w : eW} (h : mRel w) {p1 : Int} (g1 : -2147483648 ≤ p1 ∧ p1 ≤ 2147483647) : e_Ok 20 elay ecode eI d 357 (0, [(0, (1, 275)), (1, (0, p1))], [], w) (fun r w' => ∃ z : Int, r = [(0, z)] ∧ mRel w' ∧ w' 275 3 = w 275 3 ∧ w' 275 10 = w 275 10 ∧ ((w = w' ∧ ¬ (w 275 3 = 0 ∧ 0 ≤ p1 ∧ p1 < w 275 10)) ∨ (w 275 3 = 0 ∧ (0 ≤ p1 ∧ p1 < w 275 10) ∧ w' 275 9 = 0))) :=
  (c_357 hd h.1 h.2.1 g1).imp (fun r w' q => by
    obtain ⟨z, hr, q⟩ := q
    rcases q with ⟨rfl, q⟩ | ⟨q1, q2, q3, q4, q5, q6, q7⟩
    · exact ⟨z, hr, h, rfl, rfl, Or.inl ⟨rfl, q⟩⟩
    · have h10 := e_Has.get h.1 (c := 275) (k := 10) (lo := 0) (hi := 4) rfl (by decide)
      have e3 : w' 275 3 = w 275 3 := q3 275 3 (by first | exact no_bp_0 | (unfold mPg mPs; omega))
      have e6 : w' 275 6 = w 275 6 := q3 275 6 (by first | exact no_bp_1 | (unfold mPg mPs; omega))
      refine ⟨z, hr, ⟨q4, q5, ⟨e6.trans h.2.2.1.1, fun _ => (q3 275 5 (by first | exact no_bp_2 | (unfold mPg mPs; omega))).trans (h.2.2.1.2 q1)⟩, ?_⟩, e3, q3 275 10 (by first | exact no_bp_3 | (unfold mPg mPs; omega)), Or.inr ⟨q1, q2, q6⟩⟩
      rcases h.2.2.2 with ⟨-, G, g⟩ | ⟨g, -⟩
      · obtain ⟨G', g'⟩ := g.prog (by omega) q3 q4 q7
        exact Or.inl ⟨e3.trans q1, G', g'⟩
      · omega)
end
end
