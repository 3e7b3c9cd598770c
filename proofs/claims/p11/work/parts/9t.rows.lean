noncomputable section
/-! the book: what its rows lead to -/
/-- a row may be carried out (but plan's) -/
def rowC (w : eW) (x a b c : Int) : Prop :=
  (0 ≤ x ∧ x ≤ 11 ∧ x ≠ 10) ∧
  (x = 0 → (0 ≤ a ∧ a < w 275 10 ∧ 0 ≤ b ∧ b < w 338 a ∧ w 275 3 = 1) ∧ ∃ t, 0 ≤ t ∧ t ≤ 15 ∧ (w 276 (1260 * t + 416) = 0 ∨ w 276 (1260 * t + 416) = 6)) ∧
  (x = 1 → 1 ≤ a ∧ a ≤ 1000 ∧ w 275 3 = 1 ∧ w 276 0 ≠ 6000) ∧
  (x = 2 → 0 ≤ a ∧ a ≤ 63 ∧ w 275 3 = 1) ∧
  (x = 3 → (0 ≤ a ∧ a ≤ 63 ∧ w 275 3 = 1) ∧ 0 ≤ c ∧ c ≤ 1) ∧
  (x = 4 → (0 ≤ a ∧ a < w 275 49 ∧ w 275 3 = 1) ∧ (0 ≤ b ∧ b ≤ 1) ∧ 0 ≤ c ∧ c ≤ 1) ∧
  (x = 5 → ((0 ≤ a ∧ a ≤ 7) ∧ w 275 3 = 1 ∧ w 317 a ≠ 0 ∧ w 276 1 ≠ 1) ∧ (∀ i, 0 ≤ i → i < w 275 49 → w 276 (4 * i + 20836) ≠ 0 ∧ w 276 (4 * i + 20837) ≠ 0)) ∧
  (x = 6 → (a = -1 ∨ (0 ≤ a ∧ a < w 275 10)) ∧ w 275 3 = 1 ∧ (a = -1 → w 276 1 ≠ 0)) ∧
  (x = 7 → 0 ≤ a ∧ a < w 275 10 ∧ w 275 3 = 1 ∧ 0 ≤ w 276 (36 * a + 18)) ∧
  (x = 8 → (0 ≤ a ∧ a < w 275 10 ∧ 0 ≤ b ∧ b < w 286 a) ∧ (w 288 (6 * a + b) ≤ c ∧ c ≤ w 289 (6 * a + b)) ∧ w 275 3 = 1 ∧ w 276 1 ≠ 1) ∧
  (x = 9 → 0 ≤ a ∧ a ≤ 5 ∧ w 275 3 = 1) ∧
  (x = 11 → (0 ≤ a ∧ a < w 275 10) ∧ w 275 3 = 1 ∧ 0 ≤ w 276 (36 * a + 19) ∧ w 276 (36 * a + 20) ≠ 0 ∧ w 276 (36 * a + 16) = 0 ∧ w 276 (36 * a + 18) < 0 ∧ w 276 1 ≠ 0)
/-- what 'now' is behind the row -/
def rowF (w : eW) (x a b c : Int) (k : Int) : Int := match x.toNat with
  | 0 => nowF 359 [(0, (1, 275)), (1, (0, a)), (2, (0, b))] w k
  | 1 => runN w (if a < 6000 - w 276 0 then a else 6000 - w 276 0).toNat k
  | 2 => nowF 323 [(0, (1, 275)), (1, (0, a)), (2, (0, b))] w k
  | 3 => hcF (fcZ w a b c) k
  | 4 => e_up (e_up w 276 (4 * a + 20836) b) 276 (4 * a + 20837) c 276 k
  | 5 => nowF 319 [(0, (1, 275)), (1, (0, 3)), (2, (0, a)), (3, (0, 0))] (wn w (fun k => rsW w (w 275 49) k)) k
  | 6 => if a = -1 then nowF 385 [(0, (1, 275)), (1, (0, 4)), (2, (0, 0))] w k else nowF 384 [(0, (1, 275)), (1, (0, a))] w k
  | 7 => e_up (e_up w 276 (1260 * w 276 (36 * a + 18) + 416) 6) 276 (36 * a + 18) (-1) 276 k
  | 8 => if w 276 (36 * a + b + 32) = c then e_up w 276 (36 * a + b + 32) c 276 k else nowF 390 [(0, (1, 275)), (1, (0, a))] (e_up w 276 (36 * a + b + 32) c) k
  | 9 => e_up w 276 (a + 8) b 276 k
  | _ => if 0 < w 276 (36 * a + 19) then nowF 391 [(0, (1, 275)), (1, (0, a))] (e_up (e_up w 276 (36 * a + 22) 1) 276 (36 * a + 23) 0) k else w 276 k
theorem up_low {u w : eW} (hu : ∀ c k, K0 c k → u c k = w c k) (i z : Int) : ∀ c k, K0 c k → e_up u 276 i z c k = e_up w 276 i z c k := fun c k q => by
  unfold e_up
  rw [hu c k q]
theorem runN_eq {u w : eW} (hu : ∀ c k, K0 c k → u c k = w c k) : ∀ n, runN u n = runN w n
  | 0 => funext (fun k => hu 276 k (K0_now k))
  | n + 1 => by
    show tickF (wn u (runN u n)) 276 = tickF (wn w (runN w n)) 276
    rw [runN_eq hu n, tickF_eq (w := wn w (runN w n)) (u := wn u (runN w n)) (fun c k q => by
      unfold wn
      by_cases e : c = 276
      · rw [if_pos e, if_pos e]
      · rw [if_neg e, if_neg e]; exact hu c k q)]
theorem hcF_eq {u w : eW} (hu : ∀ c k, K0 c k → u c k = w c k) (p v o : Int) : hcF (fcZ u p v o) = hcF (fcZ w p v o) := by
  funext k
  unfold hcF
  rw [e_pz_eq (w := fcZ w p v o) (w' := fcZ u p v o) (fun c k q => by
    unfold fcZ
    by_cases e : c = 327
    · rw [if_pos e, if_pos e]
      unfold bcF
      rw [e_pz_eq hu]
    · rw [if_neg e, if_neg e]
      have q1 : K0 c k := q.resolve_right (fun h => e h.1)
      exact up_low (up_low hu _ _) _ _ c k q1)]
section E9t
variable {u w : eW}
theorem K0_b10 : K0 275 10 := by exact (by decide : (0 : Int) ≤ 4)
theorem K0_b3 : K0 275 3 := by exact (by decide : (0 : Int) ≤ 1)
theorem K0_b49 : K0 275 49 := by exact (by decide : (0 : Int) ≤ 8)
theorem K0_317 (k : Int) : K0 317 k := by exact (by decide : (0 : Int) ≤ 1)
theorem K0_286 (k : Int) : K0 286 k := by exact (by decide : (0 : Int) ≤ 6)
theorem K0_288 (k : Int) : K0 288 k := by exact (by decide : (-100000 : Int) ≤ 0)
theorem K0_289 (k : Int) : K0 289 k := by exact (by decide : (0 : Int) ≤ 100000)
theorem K0_338 (k : Int) : K0 338 k := K0_code k (by decide)
theorem rowC.low {x a b c : Int} (h : rowC w x a b c) (hu : ∀ c k, K0 c k → u c k = w c k) : rowC u x a b c := by
  have e10 := hu _ _ K0_b10
  have e3 := hu _ _ K0_b3
  have e49 := hu _ _ K0_b49
  have e317 : ∀ k, u 317 k = w 317 k := fun k => hu _ _ (K0_317 k)
  have e286 : ∀ k, u 286 k = w 286 k := fun k => hu _ _ (K0_286 k)
  have e288 : ∀ k, u 288 k = w 288 k := fun k => hu _ _ (K0_288 k)
  have e289 : ∀ k, u 289 k = w 289 k := fun k => hu _ _ (K0_289 k)
  have e338 : ∀ k, u 338 k = w 338 k := fun k => hu _ _ (K0_338 k)
  have e276 : ∀ k, u 276 k = w 276 k := fun k => hu _ _ (K0_now k)
  unfold rowC at h ⊢
  simp only [e10, e3, e49, e317, e286, e288, e289, e338, e276]
  exact h
theorem rowF_eq (hu : ∀ c k, K0 c k → u c k = w c k) (x a b c k : Int) : rowF u x a b c k = rowF w x a b c k := by
  have e276 : ∀ k, u 276 k = w 276 k := fun k => hu _ _ (K0_now k)
  have e49 := hu _ _ K0_b49
  unfold rowF
  split
  · rw [nowF_eq hu]
  · rw [e276, runN_eq hu]
  · rw [nowF_eq hu]
  · rw [hcF_eq hu]
  · exact up_low (up_low hu _ _) _ _ 276 k (K0_now k)
  · rw [nowF_eq (w := wn w (fun k => rsW w (w 275 49) k)) (u := wn u (fun k => rsW u (u 275 49) k)) (fun c k q => by
      unfold wn
      by_cases e : c = 276
      · rw [if_pos e, if_pos e]
        show rsW u (u 275 49) k = rsW w (w 275 49) k
        unfold rsW rsI
        rw [e276, e49]
      · rw [if_neg e, if_neg e]; exact hu c k q)]
  · rw [nowF_eq hu, nowF_eq hu]
  · rw [e276 (36 * a + 18)]
    exact up_low (up_low hu _ _) _ _ 276 k (K0_now k)
  · rw [e276 (36 * a + b + 32), nowF_eq (up_low hu _ _), up_low hu _ _ 276 k (K0_now k)]
  · exact up_low hu _ _ 276 k (K0_now k)
  · rw [e276 (36 * a + 19), nowF_eq (up_low (up_low hu _ _) _ _), e276 k]
theorem ndF_eq (hu : ∀ c k, K0 c k → u c k = w c k) (a n : Int) : ndF u a n = ndF w a n := funext (fun j => by
  unfold ndF
  rw [hu 276 _ (K0_now _), hu 288 _ (K0_288 _), hu 289 _ (K0_289 _)])
theorem fsF_eq (hu : ∀ c k, K0 c k → u c k = w c k) (a n j : Int) : fsF u a n j = fsF w a n j := by
  unfold fsF
  rw [hu 276 _ (K0_now _), hu 288 _ (K0_288 _)]
theorem plA.low {a n m : Int} (h : plA w a n m) (hu : ∀ c k, K0 c k → u c k = w c k) : plA u a n m := by
  have e10 := hu _ _ K0_b10
  have e3 := hu _ _ K0_b3
  obtain ⟨h1, h2, h3, h4, h5⟩ := h
  refine ⟨by rw [e10]; exact h1, by rw [e3]; exact h2, by rw [hu 276 _ (K0_now _)]; exact h3, by rw [hu 286 _ (K0_286 _), ndF_eq hu]; exact h4, fun j g1 g2 => ?_⟩
  rw [hu 286 _ (K0_286 _)] at g2
  rw [hu 276 _ (K0_now _), hu 288 _ (K0_288 _), hu 289 _ (K0_289 _), fsF_eq hu]
  exact h5 j g1 g2
end E9t
/-- what a call leaves: the plan of the cell, the book -/
def frB (w v : eW) : Prop := ∀ c k, c ≠ 276 → (K0 c k ∨ (277 ≤ c ∧ c ≤ 279) ∨ (354 ≤ c ∧ c ≤ 356) ∨ (c = 275 ∧ k = 5)) → v c k = w c k
theorem frB.trans {a b c : eW} (h : frB a b) (g : frB b c) : frB a c := fun x k q1 q2 => (g x k q1 q2).trans (h x k q1 q2)
theorem frB.ti {w v : eW} (h : e_fr mTi w v) : frB w v := fun c k q1 q2 => h c k (fun q => by
  rcases q2 with q2 | q2
  · exact q1 (ti_K0 q q2)
  · unfold mTi at q; omega)
theorem pm_K0 {c k : Int} (h : mPm c k) (q : K0 c k) : c = 276 := by
  rcases h with h | ⟨rfl, h⟩ | h | h
  · exact h
  · exfalso
    have e : k = 58 ∨ k = 59 ∨ k = 60 ∨ k = 110 ∨ k = 111 ∨ k = 112 ∨ k = 118 := by omega
    rcases e with rfl | rfl | rfl | rfl | rfl | rfl | rfl <;> exact absurd q (by decide : ¬ ((1 : Int) ≤ 0))
  · exfalso
    have e : c = 321 ∨ c = 322 ∨ c = 323 ∨ c = 324 ∨ c = 325 := by omega
    rcases e with rfl | rfl | rfl | rfl | rfl <;> exact absurd q (by decide : ¬ ((1 : Int) ≤ 0))
  · exfalso
    have e : c = 347 ∨ c = 348 ∨ c = 349 ∨ c = 350 ∨ c = 351 ∨ c = 352 ∨ c = 353 := by omega
    rcases e with rfl | rfl | rfl | rfl | rfl | rfl | rfl <;> exact absurd q (by decide : ¬ ((1 : Int) ≤ 0))
theorem frB.pm {w v : eW} (h : e_fr mPm w v) : frB w v := fun c k q1 q2 => h c k (fun q => by
  rcases q2 with q2 | q2
  · exact q1 (pm_K0 q q2)
  · unfold mPm at q; omega)
/-- the cell at s -/
theorem frB.onN {w v : eW} {s : Int → Int} (h : frB w v) (hs : ∀ k, v 276 k = s k) : ∀ c k, K0 c k → v c k = wn w s c k := fun c k q => by
  unfold wn
  by_cases e : c = 276
  · rw [if_pos e, e]; exact hs k
  · rw [if_neg e]; exact h c k e (Or.inl q)
/-- carried out again -/
theorem again_of {P : Prop} {w w' : eW} {G : Int → Gh} {x a b c : Int} {s : Int → Int} {r : List eV} (h6 : w 275 6 = 1) (hP : P) (h : ∃ z : Int, r = [(0, z)] ∧ ((w = w' ∧ ¬ (P ∧ ¬ mBk w)) ∨ (P ∧ ¬ mBk w ∧ opS w w' G x a b c s ∧ evG w w'))) : ∃ z : Int, r = [(0, z)] ∧ e_fr mTi w w' ∧ ∀ k, w' 276 k = s k := by
  obtain ⟨z, h1, h2⟩ := h
  refine ⟨z, h1, ?_⟩
  rcases h2 with ⟨-, h2⟩ | ⟨-, -, ⟨h3, -, wm, h4, -, h5⟩, -⟩
  · exact absurd ⟨hP, fun q => by have := q.2; omega⟩ h2
  · rcases h5 with ⟨-, h5⟩ | ⟨h5, -⟩
    · subst h5
      exact ⟨h4, h3⟩
    · omega
/-- a row of the book: from s to s' -/
def bkR (w : eW) (i : Int) (s s' : Int → Int) : Prop :=
  (∀ j, 4 * i ≤ j → j ≤ 4 * i + 3 → -2147483648 ≤ w 279 j ∧ w 279 j ≤ 2147483647) ∧
  ((rowC (wn w s) (w 279 (4 * i)) (w 279 (4 * i + 1)) (w 279 (4 * i + 2)) (w 279 (4 * i + 3)) ∧ ∀ k, s' k = rowF (wn w s) (w 279 (4 * i)) (w 279 (4 * i + 1)) (w 279 (4 * i + 2)) (w 279 (4 * i + 3)) k) ∨
   (w 279 (4 * i) = 10 ∧ plA (wn w s) (w 279 (4 * i + 1)) (w 279 (4 * i + 2)) (w 279 (4 * i + 3)) ∧ ∃ z g, (0 ≤ z ∧ z ≤ 999) ∧ 0 ≤ w 355 i ∧ w 356 i = w 355 i + z ∧ (∀ j, 0 ≤ j → j < z → w 354 (w 355 i + j) = g j ∧ 0 ≤ g j ∧ g j ≤ 11) ∧ ∀ k, s' k = plN (wn w s) (w 279 (4 * i + 1)) (w 279 (4 * i + 2)) z g k))
/-- the book leads to where the cell stands -/
def bkI (w : eW) (G : Int → Gh) (S : Int → Int → Int) : Prop :=
  (∀ k, w 276 k = S (w 275 5) k) ∧
  (∀ i, 0 ≤ i → i ≤ w 275 5 → mInv (wn w (S i)) G ∧ S i 5 ≤ 16 * i + 900 * S i 0 ∧ ∀ k, (k < 0 ∨ 33060 ≤ k) → S i k = w 276 k) ∧
  (∀ k, 0 ≤ k → k < 33060 → w 277 k = S 0 k) ∧
  (∀ q k, 1 ≤ q → 100 * q ≤ w 275 5 → 0 ≤ k → k < 33060 → w 278 (33060 * q - 33060 + k) = S (100 * q) k) ∧
  (∀ i, 0 ≤ i → i < w 275 5 → bkR w i (S i) (S (i + 1))) ∧
  (∀ i j, 0 ≤ i → i ≤ j → j < w 275 5 → 0 ≤ w 356 i ∧ w 356 i ≤ w 356 j ∧ w 356 j ≤ 999 * w 275 118) ∧
  (0 ≤ w 275 118 ∧ w 275 118 ≤ 60) ∧ w 275 6 = 0 ∧ (0 ≤ w 275 5 ∧ w 275 5 ≤ 2000)
/-- all that the book's rows change, done again -/
def mBb (c k : Int) : Prop := mTi c k ∨ mPm c k ∨ (c = 275 ∧ (k = 6 ∨ k = 117))
theorem frB.bb {w v : eW} (h : e_fr mBb w v) : frB w v := fun c k q1 q2 => h c k (fun q => by
  rcases q with q | q | q
  · rcases q2 with q2 | q2
    · exact q1 (ti_K0 q q2)
    · unfold mTi at q; omega
  · rcases q2 with q2 | q2
    · exact q1 (pm_K0 q q2)
    · unfold mPm at q; omega
  · rcases q2 with q2 | q2
    · obtain ⟨rfl, rfl | rfl⟩ := q <;> exact absurd q2 (by decide : ¬ ((1 : Int) ≤ 0))
    · omega)
theorem wn_self (w : eW) : wn w (w 276) = w := by
  funext c k
  unfold wn
  by_cases e : c = 276
  · rw [if_pos e, e]
  · rw [if_neg e]
end
