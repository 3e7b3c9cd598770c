noncomputable section
/-! the text that is read becomes a program: what is emitted so far -/
/-- how many numbers lie on the stack behind an instruction -/
def nxD (o d : Int) : Int := if o = 1 ∨ o = 2 ∨ o = 5 ∨ o = 6 ∨ o = 7 ∨ o = 8 then d + 1 else if 30 ≤ o then 0 else if (10 ≤ o ∧ o ≤ 20) ∨ o = 22 ∨ o = 23 then d - 1 else d
def dpN (w : eW) : Nat → Int
  | 0 => 0
  | p + 1 => nxD (w 328 ((p : Int) + 40000)) (dpN w p)
def dp (w : eW) (p : Int) : Int := dpN w p.toNat
def sgO (o : Int) : Int := if o < 30 ∨ (31 ≤ o ∧ o ≤ 44) ∨ o = 47 then 1 else 0
theorem dpN_eq {w w' : eW} : ∀ {p : Nat}, (∀ k : Int, 0 ≤ k → k < p → w' 328 (k + 40000) = w 328 (k + 40000)) → dpN w' p = dpN w p
  | 0, _ => rfl
  | p + 1, h => by
    show nxD (w' 328 ((p : Int) + 40000)) (dpN w' p) = nxD (w 328 ((p : Int) + 40000)) (dpN w p)
    rw [h p (by omega) (by omega), dpN_eq (p := p) (fun k g1 g2 => h k g1 (by omega))]
theorem dp_eq {w w' : eW} {p : Int} (h : ∀ k : Int, 0 ≤ k → k < p → w' 328 (k + 40000) = w 328 (k + 40000)) : dp w' p = dp w p := dpN_eq (fun k g1 g2 => h k g1 (by omega))
theorem dp_next (w : eW) {p : Int} (hp : 0 ≤ p) : dp w (p + 1) = nxD (w 328 (p + 40000)) (dp w p) := by
  unfold dp
  rw [show (p + 1).toNat = p.toNat + 1 by omega]
  show nxD (w 328 ((p.toNat : Int) + 40000)) _ = _
  rw [show ((p.toNat : Nat) : Int) = p by omega]
theorem dp_zero (w : eW) : dp w 0 = 0 := rfl
/-- of a place itself: d numbers on the stack, the instruction o, its operand x -/
def iOw (d o x : Int) : Prop :=
  (1 ≤ o ∧ o ≤ 51 ∧ (o ≤ 24 ∨ 30 ≤ o)) ∧ (0 ≤ d ∧ d ≤ 4100) ∧
  (o = 3 ∨ o = 4 ∨ o = 9 ∨ o = 21 ∨ o = 24 ∨ o = 22 ∨ o = 23 → 1 ≤ d) ∧ (10 ≤ o ∧ o ≤ 20 → 2 ≤ d) ∧
  (o = 31 ∨ o = 33 ∨ o = 34 ∨ o = 36 ∨ o = 37 ∨ o = 40 ∨ o = 41 ∨ o = 44 ∨ o = 47 → d = 1) ∧ (o = 32 → d = x) ∧ (o = 35 → d = 2) ∧
  (o = 30 ∨ o = 38 ∨ o = 39 ∨ o = 42 ∨ o = 43 ∨ o = 45 ∨ o = 46 ∨ 48 ≤ o → d = 0)
/-- what the place p asks of the place behind it (its instruction is q, its region s) -/
def iNx (w : eW) (nt p q s : Int) : Prop :=
  (w 328 (p + 40000) < 30 → sgO q = 1 ∧ s = w 330 (p + 40000)) ∧
  ((31 ≤ w 328 (p + 40000) ∧ w 328 (p + 40000) ≤ 44) ∨ w 328 (p + 40000) = 47 → sgO q = 0 ∧ s = w 330 (p + 40000)) ∧
  (w 328 (p + 40000) = 30 → s = w 330 (p + 40000) ∨ ∃ t, 0 ≤ t ∧ t < nt ∧ s = 3 * t ∧ w 331 (t + 3600) = w 330 (p + 40000))
/-- .. and of the place that it goes to, if that is q -/
def iGo (w : eW) (p q o s : Int) : Prop := w 329 (p + 40000) = q →
  (w 328 (p + 40000) = 22 ∨ w 328 (p + 40000) = 23 → dp w q = dp w p ∧ sgO o = 1 ∧ s = w 330 (p + 40000)) ∧
  (w 328 (p + 40000) = 34 → dp w q = 0 ∧ s = w 330 (p + 40000)) ∧
  (w 328 (p + 40000) = 47 ∨ w 328 (p + 40000) = 48 → dp w q = 0 ∧ sgO o = 0 ∧ s = w 330 (p + 40000))
def iJp (o : Int) : Prop := o = 22 ∨ o = 23 ∨ o = 34 ∨ o = 47 ∨ o = 48
/-- where a jump may go -/
def iTo (w : eW) (n p : Int) : Prop :=
  (w 328 (p + 40000) = 22 ∨ w 328 (p + 40000) = 23 ∨ w 328 (p + 40000) = 47 → p < w 329 (p + 40000) ∧ w 329 (p + 40000) ≤ n) ∧
  (w 328 (p + 40000) = 34 → 0 ≤ w 329 (p + 40000) ∧ w 329 (p + 40000) ≤ p) ∧
  (w 328 (p + 40000) = 48 → (p < w 329 (p + 40000) ∧ w 329 (p + 40000) ≤ n) ∨ (0 ≤ w 329 (p + 40000) ∧ w 329 (p + 40000) < p ∧ w 328 (w 329 (p + 40000) + 40000) = 30))
/-- all that is emitted up to n; P: places whose operand is still to come -/
def PI (w : eW) (n nt : Int) (P : Int → Prop) : Prop := ∀ p, 0 ≤ p → p < n → iOw (dp w p) (w 328 (p + 40000)) (w 329 (p + 40000)) ∧ (p + 1 < n → iNx w nt p (w 328 (p + 1 + 40000)) (w 330 (p + 1 + 40000))) ∧ (¬ P p → iTo w n p ∧ ∀ q, 0 ≤ q → q < n → iGo w p q (w 328 (q + 40000)) (w 330 (q + 40000)))
/-- what is asked of the next place: an instruction o of the region s may stand there -/
def RQ (w : eW) (n nt : Int) (P : Int → Prop) (o s : Int) : Prop := ∀ p, 0 ≤ p → p < n → (p + 1 = n → iNx w nt p o s) ∧ (¬ P p → iGo w p n o s)
/-- an instruction was emitted -/
def EM (w w' : eW) (n o x s : Int) : Prop := (∀ c k, ¬ (((c = 328 ∨ c = 329 ∨ c = 330) ∧ k = n + 40000) ∨ (c = 275 ∧ k = 78)) → w' c k = w c k) ∧ w' 328 (n + 40000) = o ∧ w' 329 (n + 40000) = x ∧ w' 330 (n + 40000) = s ∧ w' 275 78 = n + 1
theorem EM.dq {w w' : eW} {n o x s p : Int} (h : EM w w' n o x s) (hp : p ≤ n) : dp w' p = dp w p := dp_eq (fun k g1 g2 => h.1 328 _ (by omega))
theorem EM.dq1 {w w' : eW} {n o x s : Int} (h : EM w w' n o x s) (hn : 0 ≤ n) : dp w' (n + 1) = nxD o (dp w n) := by
  rw [dp_next w' hn, h.2.1, h.dq (Int.le_refl n)]
theorem iNx.eq {w w' : eW} {nt nt' p q s : Int} (h : iNx w nt p q s) (hn : nt ≤ nt') (h8 : w' 328 (p + 40000) = w 328 (p + 40000)) (h0 : w' 330 (p + 40000) = w 330 (p + 40000)) (h1 : ∀ t, 0 ≤ t → t < nt → w' 331 (t + 3600) = w 331 (t + 3600)) : iNx w' nt' p q s := by
  obtain ⟨q1, q2, q3⟩ := h
  unfold iNx
  rw [h8, h0]
  refine ⟨q1, q2, fun e => (q3 e).imp id (fun ⟨t, t1, t2, t3, t4⟩ => ⟨t, t1, by omega, t3, by rw [h1 t t1 t2]; exact t4⟩)⟩
theorem iGo.eq {w w' : eW} {p q o s : Int} (h : iGo w p q o s) (h8 : w' 328 (p + 40000) = w 328 (p + 40000)) (h9 : w' 329 (p + 40000) = w 329 (p + 40000)) (h0 : w' 330 (p + 40000) = w 330 (p + 40000)) (hd : dp w' p = dp w p) (hq : dp w' q = dp w q) : iGo w' p q o s := by
  unfold iGo at h ⊢
  rw [h8, h9, h0, hd, hq]
  exact h
theorem iTo.eq {w w' : eW} {n n' p : Int} (h : iTo w n p) (hn : n ≤ n') (h8 : ∀ k, 0 ≤ k → k ≤ p → w' 328 (k + 40000) = w 328 (k + 40000)) (h9 : w' 329 (p + 40000) = w 329 (p + 40000)) (hp : 0 ≤ p) : iTo w' n' p := by
  obtain ⟨q1, q2, q3⟩ := h
  unfold iTo
  rw [h8 p hp (Int.le_refl p), h9]
  refine ⟨fun e => by have := q1 e; omega, q2, fun e => ?_⟩
  rcases q3 e with g | ⟨g1, g2, g3⟩
  · exact Or.inl (by omega)
  · exact Or.inr ⟨g1, g2, by rw [h8 _ g1 (by omega)]; exact g3⟩
/-- the emitted part, with one instruction more; J: its operand is still to come, if it is a jump -/
theorem PI.em {w w' : eW} {n nt o x s : Int} {P P' : Int → Prop} (h : PI w n nt P) (hq : RQ w n nt P o s) (he : EM w w' n o x s) (hn : 0 ≤ n) (ho : iOw (dp w n) o x) (hP : ∀ p, p < n → P p → P' p) (hP2 : ∀ p, p < n → P' p → P p) (hj : ¬ P' n → iTo w' (n + 1) n ∧ ∀ q, 0 ≤ q → q ≤ n → iGo w' n q (w' 328 (q + 40000)) (w' 330 (q + 40000))) : PI w' (n + 1) nt P' := fun p g1 g2 => by
  have e8 : ∀ k, k < n → w' 328 (k + 40000) = w 328 (k + 40000) := fun k q => he.1 _ _ (by omega)
  have e9 : ∀ k, k < n → w' 329 (k + 40000) = w 329 (k + 40000) := fun k q => he.1 _ _ (by omega)
  have e0 : ∀ k, k < n → w' 330 (k + 40000) = w 330 (k + 40000) := fun k q => he.1 _ _ (by omega)
  have e1 : ∀ t, 0 ≤ t → t < nt → w' 331 (t + 3600) = w 331 (t + 3600) := fun t _ _ => he.1 _ _ (by omega)
  by_cases e : p = n
  · subst e
    refine ⟨by rw [he.dq (Int.le_refl p), he.2.1, he.2.2.1]; exact ho, fun q => by omega, fun q => ⟨(hj q).1, fun k k1 k2 => (hj q).2 k k1 (by omega)⟩⟩
  · obtain ⟨i1, i2, i3⟩ := h p g1 (by omega)
    obtain ⟨r1, r2⟩ := hq p g1 (by omega)
    refine ⟨by rw [he.dq (by omega), e8 p (by omega), e9 p (by omega)]; exact i1, fun q => ?_, fun q => ?_⟩
    · by_cases e2 : p + 1 = n
      · rw [show p + 1 + 40000 = n + 40000 by omega, he.2.1, he.2.2.2.1]
        exact (r1 e2).eq (Int.le_refl nt) (e8 p (by omega)) (e0 p (by omega)) e1
      · rw [e8 (p + 1) (by omega), e0 (p + 1) (by omega)]
        exact (i2 (by omega)).eq (Int.le_refl nt) (e8 p (by omega)) (e0 p (by omega)) e1
    · have q' : ¬ P p := fun g => q (hP p (by omega) g)
      refine ⟨(i3 q').1.eq (by omega) (fun k _ k2 => e8 k (by omega)) (e9 p (by omega)) g1, fun k k1 k2 => ?_⟩
      by_cases e3 : k = n
      · subst e3
        rw [he.2.1, he.2.2.2.1]
        exact (r2 q').eq (e8 p (by omega)) (e9 p (by omega)) (e0 p (by omega)) (he.dq (by omega)) (he.dq (Int.le_refl k))
      · rw [e8 k (by omega), e0 k (by omega)]
        exact ((i3 q').2 k k1 (by omega)).eq (e8 p (by omega)) (e9 p (by omega)) (e0 p (by omega)) (he.dq (by omega)) (he.dq (by omega))
/-- behind an instruction: what it asks alone -/
theorem RQ.em {w w' : eW} {n nt o x s o' s' : Int} {P P' : Int → Prop} (h : PI w n nt P) (he : EM w w' n o x s) (hn : 0 ≤ n) (hP : ∀ p, p < n → P p → P' p) (hP2 : ∀ p, p < n → P' p → P p) (hx : iNx w' nt n o' s') (hg : ¬ P' n → iGo w' n (n + 1) o' s') : RQ w' (n + 1) nt P' o' s' := fun p g1 g2 => by
  by_cases e : p = n
  · subst e
    exact ⟨fun _ => hx, hg⟩
  · refine ⟨fun q => by omega, fun q g => ?_⟩
    obtain ⟨-, -, i3⟩ := h p g1 (by omega)
    have := (i3 (fun g => q (hP p (by omega) g))).1
    unfold iTo at this
    rw [he.1 329 (p + 40000) (by omega)] at g
    rw [he.1 328 (p + 40000) (by omega)]
    refine ⟨fun q1 => ?_, fun q1 => ?_, fun q1 => ?_⟩ <;> (exfalso; omega)
end
