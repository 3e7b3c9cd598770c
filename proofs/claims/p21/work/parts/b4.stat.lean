noncomputable section
/-! statements: regions, tries and whiles of what is emitted -/
/-- the region around a region -/
def par (w : eW) (r : Int) : Int := if 0 ≤ r then w 331 (r / 3 + 3600) else r
def upN (w : eW) : Nat → Int → Int
  | 0, r => r
  | k + 1, r => upN w k (par w r)
/-- q is the region r or lies around it -/
def anc (w : eW) (r q : Int) : Prop := ∃ k, upN w k r = q
/-- tries lie in older regions -/
def TI (w : eW) (nt : Int) : Prop := ∀ t, 0 ≤ t → t < nt → -1 ≤ w 331 (t + 3600) ∧ w 331 (t + 3600) < 3 * t
theorem anc.refl (w : eW) (r : Int) : anc w r r := ⟨0, rfl⟩
theorem anc.step {w : eW} {r q : Int} (h : anc w (par w r) q) : anc w r q := by
  obtain ⟨k, hk⟩ := h
  exact ⟨k + 1, hk⟩
theorem anc.or {w : eW} {r q : Int} (h : anc w r q) : r = q ∨ anc w (par w r) q := by
  obtain ⟨k, hk⟩ := h
  cases k with
  | zero => exact Or.inl hk
  | succ k => exact Or.inr ⟨k, hk⟩
theorem par_neg (w : eW) : par w (-1) = -1 := by unfold par; rw [if_neg (by decide)]
theorem par_nn (w : eW) {r : Int} (h : 0 ≤ r) : par w r = w 331 (r / 3 + 3600) := by unfold par; rw [if_pos h]
theorem upN_neg (w : eW) : ∀ k, upN w k (-1) = -1
  | 0 => rfl
  | k + 1 => by
    show upN w k (par w (-1)) = -1
    rw [par_neg]
    exact upN_neg w k
theorem anc.neg {w : eW} {q : Int} (h : anc w (-1) q) : q = -1 := by
  obtain ⟨k, hk⟩ := h
  rw [upN_neg] at hk
  exact hk.symm
theorem par_lt {w : eW} {nt r : Int} (h : TI w nt) (h1 : 0 ≤ r) (h2 : r < 3 * nt) : -1 ≤ par w r ∧ par w r < 3 * (r / 3) := by
  rw [par_nn w h1]
  exact h (r / 3) (by omega) (by omega)
theorem upN_le {w : eW} {nt : Int} (h : TI w nt) : ∀ (k : Nat) {r : Int}, -1 ≤ r → r < 3 * nt → -1 ≤ upN w k r ∧ upN w k r ≤ r
  | 0, r, h1, h2 => ⟨h1, Int.le_refl r⟩
  | k + 1, r, h1, h2 => by
    by_cases c : 0 ≤ r
    · have q := par_lt h c h2
      have g := upN_le h k q.1 (by omega)
      exact ⟨g.1, by have := g.2; show upN w k (par w r) ≤ r; omega⟩
    · have e : r = -1 := by omega
      subst e
      rw [upN_neg]
      decide
theorem anc.le {w : eW} {nt r q : Int} (h : TI w nt) (h1 : -1 ≤ r) (h2 : r < 3 * nt) (a : anc w r q) : -1 ≤ q ∧ q ≤ r := by
  obtain ⟨k, hk⟩ := a
  rw [← hk]
  exact upN_le h k h1 h2
theorem anc.tr {w : eW} {r q p : Int} (a : anc w r q) (b : anc w q p) : anc w r p := by
  obtain ⟨k, hk⟩ := a
  induction k generalizing r with
  | zero =>
    have e : r = q := hk
    subst e
    exact b
  | succ k ih => exact anc.step (ih hk)
/-- the tables agree up to nt -/
theorem upN_eq {w w' : eW} {nt : Int} (h : TI w nt) (e : ∀ t, 0 ≤ t → t < nt → w' 331 (t + 3600) = w 331 (t + 3600)) : ∀ (k : Nat) {r : Int}, -1 ≤ r → r < 3 * nt → upN w' k r = upN w k r
  | 0, _, _, _ => rfl
  | k + 1, r, h1, h2 => by
    show upN w' k (par w' r) = upN w k (par w r)
    by_cases c : 0 ≤ r
    · have q := par_lt h c h2
      rw [show par w' r = par w r by rw [par_nn w' c, par_nn w c]; exact e (r / 3) (by omega) (by omega)]
      exact upN_eq h e k q.1 (by omega)
    · have e1 : r = -1 := by omega
      subst e1
      rw [par_neg, par_neg, upN_neg, upN_neg]
theorem anc.eq {w w' : eW} {nt r q : Int} (h : TI w nt) (e : ∀ t, 0 ≤ t → t < nt → w' 331 (t + 3600) = w 331 (t + 3600)) (h1 : -1 ≤ r) (h2 : r < 3 * nt) : anc w' r q ↔ anc w r q :=
  ⟨fun ⟨k, hk⟩ => ⟨k, by rw [← upN_eq h e k h1 h2]; exact hk⟩, fun ⟨k, hk⟩ => ⟨k, by rw [upN_eq h e k h1 h2]; exact hk⟩⟩
/-- the regions of a try -/
theorem anc.of3 {w : eW} {t i q : Int} (ht : 0 ≤ t) (h1 : 0 ≤ i) (h2 : i ≤ 2) : anc w (3 * t + i) q ↔ q = 3 * t + i ∨ anc w (w 331 (t + 3600)) q := by
  have e : par w (3 * t + i) = w 331 (t + 3600) := by rw [par_nn w (by omega), show (3 * t + i) / 3 = t by omega]
  constructor
  · intro a
    rcases a.or with g | g
    · exact Or.inl g.symm
    · rw [e] at g
      exact Or.inr g
  · intro a
    rcases a with g | g
    · subst g
      exact anc.refl w _
    · exact anc.step (by rw [e]; exact g)
/-- how many finally parts are open -/
def piN (w : eW) : Nat → Int → Int
  | 0, _ => 0
  | k + 1, r => if 0 ≤ r then piN w k (w 331 (r / 3 + 3600)) + (if r % 3 = 2 then 1 else 0) else 0
def piR (w : eW) (r : Int) : Int := piN w (r + 1).toNat r
theorem piN_neg (w : eW) : ∀ k, piN w k (-1) = 0
  | 0 => rfl
  | k + 1 => by
    show (if (0 : Int) ≤ -1 then _ else 0) = (0 : Int)
    rw [if_neg (by decide)]
theorem piN_any {w : eW} {nt : Int} (h : TI w nt) : ∀ (k j : Nat) {r : Int}, -1 ≤ r → r < 3 * nt → (r + 1).toNat ≤ k → (r + 1).toNat ≤ j → piN w k r = piN w j r
  | 0, j, r, h1, h2, h3, h4 => by
    have e : r = -1 := by omega
    subst e
    rw [piN_neg, piN_neg]
  | k + 1, 0, r, h1, h2, h3, h4 => by
    have e : r = -1 := by omega
    subst e
    rw [piN_neg, piN_neg]
  | k + 1, j + 1, r, h1, h2, h3, h4 => by
    by_cases c : 0 ≤ r
    · have q := h (r / 3) (by omega) (by omega)
      show (if 0 ≤ r then piN w k (w 331 (r / 3 + 3600)) + (if r % 3 = 2 then 1 else 0) else 0) = (if 0 ≤ r then piN w j (w 331 (r / 3 + 3600)) + (if r % 3 = 2 then 1 else 0) else 0)
      rw [if_pos c, if_pos c, piN_any h k j (r := w 331 (r / 3 + 3600)) q.1 (by omega) (by omega) (by omega)]
    · have e : r = -1 := by omega
      subst e
      rw [piN_neg, piN_neg]
theorem piR_neg (w : eW) : piR w (-1) = 0 := rfl
theorem piR_step {w : eW} {nt r : Int} (h : TI w nt) (h1 : 0 ≤ r) (h2 : r < 3 * nt) : piR w r = piR w (w 331 (r / 3 + 3600)) + (if r % 3 = 2 then 1 else 0) := by
  have q := h (r / 3) (by omega) (by omega)
  unfold piR
  rw [show (r + 1).toNat = r.toNat + 1 by omega]
  show (if 0 ≤ r then piN w r.toNat (w 331 (r / 3 + 3600)) + (if r % 3 = 2 then 1 else 0) else 0) = _
  rw [if_pos h1, piN_any h r.toNat (w 331 (r / 3 + 3600) + 1).toNat q.1 (by omega) (by omega) (Nat.le_refl _)]
theorem piN_eq {w w' : eW} {nt : Int} (h : TI w nt) (e : ∀ t, 0 ≤ t → t < nt → w' 331 (t + 3600) = w 331 (t + 3600)) : ∀ (k : Nat) {r : Int}, -1 ≤ r → r < 3 * nt → piN w' k r = piN w k r
  | 0, _, _, _ => rfl
  | k + 1, r, h1, h2 => by
    by_cases c : 0 ≤ r
    · have q := h (r / 3) (by omega) (by omega)
      show (if 0 ≤ r then piN w' k (w' 331 (r / 3 + 3600)) + (if r % 3 = 2 then 1 else 0) else 0) = (if 0 ≤ r then piN w k (w 331 (r / 3 + 3600)) + (if r % 3 = 2 then 1 else 0) else 0)
      rw [if_pos c, if_pos c, e (r / 3) (by omega) (by omega), piN_eq h e k (r := w 331 (r / 3 + 3600)) q.1 (by omega)]
    · have e1 : r = -1 := by omega
      subst e1
      rw [piN_neg, piN_neg]
theorem piR_eq {w w' : eW} {nt r : Int} (h : TI w nt) (e : ∀ t, 0 ≤ t → t < nt → w' 331 (t + 3600) = w 331 (t + 3600)) (h1 : -1 ≤ r) (h2 : r < 3 * nt) : piR w' r = piR w r := piN_eq h e _ h1 h2
theorem piN_nn (w : eW) : ∀ (k : Nat) (r : Int), 0 ≤ piN w k r
  | 0, _ => Int.le_refl 0
  | k + 1, r => by
    show 0 ≤ (if 0 ≤ r then piN w k (w 331 (r / 3 + 3600)) + (if r % 3 = 2 then 1 else 0) else 0)
    by_cases c : 0 ≤ r
    · rw [if_pos c]
      have := piN_nn w k (w 331 (r / 3 + 3600))
      by_cases c2 : r % 3 = 2
      · rw [if_pos c2]; omega
      · rw [if_neg c2]; omega
    · rw [if_neg c]
      exact Int.le_refl 0
theorem piR_nn (w : eW) (r : Int) : 0 ≤ piR w r := piN_nn w _ r
theorem anc.pi {w : eW} {nt q : Int} (h : TI w nt) : ∀ {r : Int}, -1 ≤ r → r < 3 * nt → anc w r q → piR w q ≤ piR w r := by
  intro r h1 h2 ⟨k, hk⟩
  induction k generalizing r with
  | zero =>
    have e : r = q := hk
    subst e
    exact Int.le_refl _
  | succ k ih =>
    by_cases c : 0 ≤ r
    · have q1 := par_lt h c h2
      have g := ih q1.1 (by omega) hk
      rw [piR_step h c h2]
      rw [par_nn w c] at g
      by_cases c2 : r % 3 = 2
      · rw [if_pos c2]; omega
      · rw [if_neg c2]; omega
    · have e1 : r = -1 := by omega
      subst e1
      have hk' : upN w (k + 1) (-1) = q := hk
      rw [upN_neg] at hk'
      subst hk'
      exact Int.le_refl _
/-- where the part r ends -/
def enR (w : eW) (r : Int) : Int := if r % 3 = 0 ∧ 0 ≤ w 332 (r / 3 + 3600) then w 332 (r / 3 + 3600) else if r % 3 ≤ 1 ∧ 0 ≤ w 333 (r / 3 + 3600) then w 333 (r / 3 + 3600) else w 334 (r / 3 + 3600)
theorem enR_eq {w w' : eW} {r : Int} (h2 : w' 332 (r / 3 + 3600) = w 332 (r / 3 + 3600)) (h3 : w' 333 (r / 3 + 3600) = w 333 (r / 3 + 3600)) (h4 : w' 334 (r / 3 + 3600) = w 334 (r / 3 + 3600)) : enR w' r = enR w r := by
  unfold enR
  rw [h2, h3, h4]
/-- the try t is over, seen from the region s -/
def clsT (w : eW) (s t : Int) : Prop := ∀ i, 0 ≤ i → i ≤ 2 → ¬ anc w s (3 * t + i)
/-- q is a place that is gone to, in the region r (b: the next place may be one) -/
def tgS (w : eW) (n s : Int) (b : Prop) (q r : Int) : Prop := (0 ≤ q ∧ q ≤ n) ∧ dp w q = 0 ∧ (q < n → sgO (w 328 (q + 40000)) = 0 ∧ w 330 (q + 40000) = r) ∧ (q = n → b ∧ s = r)
def brO (w : eW) (s p R v : Int) : Prop := p < w 336 (v + 3600) ∧ ∀ r, anc w R r → anc w r (w 335 (v + 3600)) → r ≠ w 335 (v + 3600) → clsT w s (r / 3) ∧ w 334 (r / 3 + 3600) ≤ w 336 (v + 3600)
def plO (w : eW) (nt nw s : Int) (OW : Int → Prop) (p : Int) : Prop :=
  (-1 ≤ w 330 (p + 40000) ∧ w 330 (p + 40000) < 3 * nt) ∧ (anc w s (w 330 (p + 40000)) ∨ p < enR w (w 330 (p + 40000))) ∧
  (w 328 (p + 40000) = 46 → w 329 (p + 40000) = -1 ∨ ((0 ≤ w 329 (p + 40000) ∧ w 329 (p + 40000) < nw) ∧ anc w (w 330 (p + 40000)) (w 335 (w 329 (p + 40000) + 3600)) ∧ (OW (w 329 (p + 40000)) ∨ brO w s p (w 330 (p + 40000)) (w 329 (p + 40000))))) ∧
  (49 ≤ w 328 (p + 40000) → (0 ≤ w 329 (p + 40000) ∧ w 329 (p + 40000) < nt) ∧ w 330 (p + 40000) = 3 * w 329 (p + 40000) + (w 328 (p + 40000) - 49))
def tyO (w : eW) (n s : Int) (b : Prop) (t : Int) : Prop :=
  (-1 ≤ w 331 (t + 3600) ∧ w 331 (t + 3600) < 3 * t) ∧ (w 332 (t + 3600) < 0 ∨ tgS w n s b (w 332 (t + 3600)) (3 * t + 1)) ∧ (w 333 (t + 3600) < 0 ∨ tgS w n s b (w 333 (t + 3600)) (3 * t + 2)) ∧ (w 332 (t + 3600) ≤ w 333 (t + 3600) ∨ w 333 (t + 3600) < 0) ∧
  (clsT w s t → tgS w n s b (w 334 (t + 3600)) (w 331 (t + 3600)) ∧ (w 332 (t + 3600) ≤ w 334 (t + 3600) ∧ w 333 (t + 3600) ≤ w 334 (t + 3600)) ∧ (anc w s (w 331 (t + 3600)) ∨ w 334 (t + 3600) ≤ enR w (w 331 (t + 3600))))
def whO (w : eW) (n nt s : Int) (b : Prop) (OW : Int → Prop) (v : Int) : Prop :=
  (-1 ≤ w 335 (v + 3600) ∧ w 335 (v + 3600) < 3 * nt) ∧ (OW v → anc w s (w 335 (v + 3600))) ∧ (¬ OW v → tgS w n s b (w 336 (v + 3600)) (w 335 (v + 3600)))
/-- a name that is used belongs to an instruction that takes one; P at -2 - 2 m: not yet -/
def nmK (w : eW) (n m : Int) : Prop := (0 ≤ w 344 m ∧ w 344 m < n) ∧ (w 341 m = 2 → w 328 (w 344 m + 40000) = 2 ∨ w 328 (w 344 m + 40000) = 31) ∧ (w 341 m = 3 → w 328 (w 344 m + 40000) = 38 ∨ w 328 (w 344 m + 40000) = 39 ∨ w 328 (w 344 m + 40000) = 44)
def nK (w : eW) (n mm : Int) (P : Int → Prop) : Prop := ∀ m, 0 ≤ m → m < mm → w 341 m = 2 ∨ w 341 m = 3 → P (-2 - 2 * m) ∨ nmK w n m
theorem nmK.eq {w w' : eW} {n n' m : Int} (h : nmK w n m) (h1 : w' 341 m = w 341 m) (h4 : w' 344 m = w 344 m) (h8 : ∀ k, 0 ≤ k → k < n → w' 328 (k + 40000) = w 328 (k + 40000)) (hn : n ≤ n') : nmK w' n' m := by
  obtain ⟨q1, q2, q3⟩ := h
  unfold nmK
  rw [h1, h4, h8 _ q1.1 q1.2]
  exact ⟨by omega, q2, q3⟩
theorem nK.eq {w w' : eW} {n n' mm : Int} {P P' : Int → Prop} (h : nK w n mm P) (h1 : ∀ m, 0 ≤ m → m < mm → w' 341 m = w 341 m) (h4 : ∀ m, 0 ≤ m → m < mm → w' 344 m = w 344 m) (h8 : ∀ k, 0 ≤ k → k < n → w' 328 (k + 40000) = w 328 (k + 40000)) (hn : n ≤ n') (hP : ∀ p, p < 0 → P p → P' p) : nK w' n' mm P' := fun m g1 g2 g3 => by
  rw [h1 m g1 g2] at g3
  exact (h m g1 g2 g3).imp (hP _ (by omega)) (fun z => z.eq (h1 m g1 g2) (h4 m g1 g2) h8 hn)
/-- all that is emitted, in the region s; OW: whiles that are not yet over; o: how many brackets and parts are open -/
def GI (w : eW) (N n mm nt nw : Int) (P : Int → Prop) (s : Int) (OW : Int → Prop) (o : Int) (b : Prop) : Prop :=
  (PI w n nt P ∧ NM w N n mm) ∧ (∀ p, 0 ≤ p → p < n → plO w nt nw s OW p) ∧ (∀ t, 0 ≤ t → t < nt → tyO w n s b t) ∧ (∀ v, 0 ≤ v → v < nw → whO w n nt s b OW v) ∧
  (∀ m, 0 ≤ m → m < mm → w 341 m = 1 → tgS w n s b (w 344 m) (-1)) ∧ ((-1 ≤ s ∧ s < 3 * nt) ∧ 0 ≤ n ∧ 0 ≤ nt ∧ 0 ≤ nw ∧ 0 ≤ mm) ∧ ((∀ r, -1 ≤ r → r < 3 * nt → piR w r ≤ 30) ∧ piR w s ≤ o) ∧ (∀ v, OW v → 0 ≤ v ∧ v < nw) ∧ (0 < n → sgO (w 328 40000) = 0) ∧ (n = 0 → b) ∧ nK w n mm P
theorem GI.ti {w : eW} {N n mm nt nw s o : Int} {P OW : Int → Prop} {b : Prop} (h : GI w N n mm nt nw P s OW o b) : TI w nt := fun t h1 h2 => (h.2.2.1 t h1 h2).1
/-- between two statements -/
def GB (w : eW) (N n mm nt nw : Int) (P : Int → Prop) (s : Int) (OW : Int → Prop) (o : Int) : Prop := GI w N n mm nt nw P s OW o True ∧ dp w n = 0 ∧ ∀ q, sgO q = 0 → RQ w n nt P q s
/-- behind an instruction that asks nothing but the region s of the next -/
def GA (w : eW) (N n mm nt nw : Int) (P : Int → Prop) (s : Int) (OW : Int → Prop) (o : Int) : Prop := GI w N n mm nt nw P s OW o False ∧ dp w n = 0 ∧ ∀ q, RQ w n nt P q s
/-- inside a statement, d numbers on the stack -/
def GS (w : eW) (N n mm nt nw : Int) (P : Int → Prop) (s : Int) (OW : Int → Prop) (o d : Int) : Prop := GI w N n mm nt nw P s OW o False ∧ (dp w n = d ∧ 0 ≤ d) ∧ ∀ q, sgO q = 1 → RQ w n nt P q s
theorem GA.gs {w : eW} {N n mm nt nw s o : Int} {P OW : Int → Prop} (h : GA w N n mm nt nw P s OW o) : GS w N n mm nt nw P s OW o 0 := ⟨h.1, ⟨h.2.1, Int.le_refl 0⟩, fun q _ => h.2.2 q⟩
/-! contents that agree on the tables -/
def t1E (w w' : eW) : Prop := ∀ k, w' 331 k = w 331 k
def tbE (w w' : eW) : Prop := ∀ c k, 331 ≤ c → c ≤ 336 → w' c k = w c k
theorem tbE.t1 {w w' : eW} (e : tbE w w') : t1E w w' := fun k => e 331 k (by decide) (by decide)
theorem upN_t1 {w w' : eW} (e : t1E w w') : ∀ (k : Nat) (r : Int), upN w' k r = upN w k r
  | 0, _ => rfl
  | k + 1, r => by
    show upN w' k (par w' r) = upN w k (par w r)
    rw [show par w' r = par w r by unfold par; rw [e _]]
    exact upN_t1 e k _
theorem anc_t1 {w w' : eW} (e : t1E w w') (r q : Int) : anc w' r q = anc w r q := by
  unfold anc
  exact propext ⟨fun ⟨k, hk⟩ => ⟨k, by rw [← upN_t1 e k]; exact hk⟩, fun ⟨k, hk⟩ => ⟨k, by rw [upN_t1 e k]; exact hk⟩⟩
theorem cls_t1 {w w' : eW} (e : t1E w w') (s t : Int) : clsT w' s t = clsT w s t := by
  unfold clsT
  exact propext ⟨fun h i h1 h2 => by rw [← anc_t1 e]; exact h i h1 h2, fun h i h1 h2 => by rw [anc_t1 e]; exact h i h1 h2⟩
theorem piN_t1 {w w' : eW} (e : t1E w w') : ∀ (k : Nat) (r : Int), piN w' k r = piN w k r
  | 0, _ => rfl
  | k + 1, r => by
    show (if 0 ≤ r then piN w' k (w' 331 (r / 3 + 3600)) + (if r % 3 = 2 then 1 else 0) else 0) = (if 0 ≤ r then piN w k (w 331 (r / 3 + 3600)) + (if r % 3 = 2 then 1 else 0) else 0)
    rw [e _, piN_t1 e k]
theorem piR_t1 {w w' : eW} (e : t1E w w') (r : Int) : piR w' r = piR w r := piN_t1 e _ r
theorem anc_tb {w w' : eW} (e : tbE w w') (r q : Int) : anc w' r q = anc w r q := anc_t1 e.t1 r q
theorem cls_tb {w w' : eW} (e : tbE w w') (s t : Int) : clsT w' s t = clsT w s t := cls_t1 e.t1 s t
theorem piR_tb {w w' : eW} (e : tbE w w') (r : Int) : piR w' r = piR w r := piR_t1 e.t1 r
theorem enR_tb {w w' : eW} (e : tbE w w') (r : Int) : enR w' r = enR w r := enR_eq (e 332 _ (by decide) (by decide)) (e 333 _ (by decide) (by decide)) (e 334 _ (by decide) (by decide))
theorem brO_tb {w w' : eW} (e : tbE w w') {s p R v : Int} (h : brO w s p R v) : brO w' s p R v := by
  unfold brO
  rw [e 336 _ (by decide) (by decide), e 335 _ (by decide) (by decide)]
  refine ⟨h.1, fun r h1 h2 h3 => ?_⟩
  rw [anc_tb e] at h1 h2
  rw [cls_tb e, e 334 _ (by decide) (by decide)]
  exact h.2 r h1 h2 h3
theorem plO_tb {w w' : eW} (e : tbE w w') {nt nw s p : Int} {OW : Int → Prop} (h8 : w' 328 (p + 40000) = w 328 (p + 40000)) (h9 : w' 329 (p + 40000) = w 329 (p + 40000)) (h0 : w' 330 (p + 40000) = w 330 (p + 40000)) (h : plO w nt nw s OW p) : plO w' nt nw s OW p := by
  obtain ⟨q1, q2, q3, q4⟩ := h
  unfold plO
  rw [h8, h9, h0, anc_tb e, enR_tb e]
  refine ⟨q1, q2, fun g => (q3 g).imp id (fun ⟨r1, r2, r3⟩ => ⟨r1, ?_, r3.imp id (brO_tb e)⟩), q4⟩
  rw [anc_tb e, e 335 _ (by decide) (by decide)]
  exact r2
/-- a place that is gone to stays one: n' places now; what is new there -/
theorem tgS.to {w w' : eW} {n n' s q r : Int} {b b' : Prop} (h : tgS w n s b q r) (hn : n ≤ n') (hd : ∀ k, 0 ≤ k → k < n → w' 328 (k + 40000) = w 328 (k + 40000)) (h0 : ∀ k, 0 ≤ k → k < n → w' 330 (k + 40000) = w 330 (k + 40000)) (hb : q = n → b → (n < n' → sgO (w' 328 (n + 40000)) = 0 ∧ w' 330 (n + 40000) = s) ∧ (n = n' → b')) : tgS w' n' s b' q r := by
  obtain ⟨q1, q2, q3, q4⟩ := h
  refine ⟨by omega, by rw [dp_eq (w := w) (fun k g1 g2 => hd k g1 (by omega))]; exact q2, fun g => ?_, fun g => ?_⟩
  · by_cases c : q < n
    · rw [hd q q1.1 c, h0 q q1.1 c]
      exact q3 c
    · have e : q = n := by omega
      obtain ⟨z1, z2⟩ := q4 e
      have := (hb e z1).1 (by omega)
      rw [e, ← z2]
      exact this
  · have e : q = n := by omega
    obtain ⟨z1, z2⟩ := q4 e
    exact ⟨(hb e z1).2 (by omega), z2⟩
theorem tyO_tb {w w' : eW} (e : tbE w w') {n n' s t : Int} {b b' : Prop} (h : tyO w n s b t) (hg : ∀ q r, tgS w n s b q r → tgS w' n' s b' q r) : tyO w' n' s b' t := by
  obtain ⟨q1, q2, q3, q4, q5⟩ := h
  unfold tyO
  rw [e 331 _ (by decide) (by decide), e 332 _ (by decide) (by decide), e 333 _ (by decide) (by decide), e 334 _ (by decide) (by decide), cls_tb e, anc_tb e, enR_tb e]
  exact ⟨q1, q2.imp id (hg _ _), q3.imp id (hg _ _), q4, fun g => ⟨hg _ _ (q5 g).1, (q5 g).2⟩⟩
theorem whO_tb {w w' : eW} (e : tbE w w') {n n' nt s v : Int} {b b' : Prop} {OW : Int → Prop} (h : whO w n nt s b OW v) (hg : ∀ q r, tgS w n s b q r → tgS w' n' s b' q r) : whO w' n' nt s b' OW v := by
  obtain ⟨q1, q2, q3⟩ := h
  unfold whO
  rw [e 335 _ (by decide) (by decide), e 336 _ (by decide) (by decide), anc_tb e]
  exact ⟨q1, q2, fun g => hg _ _ (q3 g)⟩
/-- more places, more names; the tables as they were -/
theorem GI.grow {w w' : eW} {N n n' mm mm' nt nw s o : Int} {P P' OW : Int → Prop} {b b' : Prop} (h : GI w N n mm nt nw P s OW o b) (e : tbE w w') (hn : n ≤ n') (hm : mm ≤ mm') (h8 : ∀ k, 0 ≤ k → k < n → w' 328 (k + 40000) = w 328 (k + 40000)) (h0 : ∀ k, 0 ≤ k → k < n → w' 330 (k + 40000) = w 330 (k + 40000))
    (h9 : ∀ k, 0 ≤ k → k < n → w 328 (k + 40000) = 46 ∨ 49 ≤ w 328 (k + 40000) → w' 329 (k + 40000) = w 329 (k + 40000))
    (hP : PI w' n' nt P') (hN : NM w' N n' mm') (hb : b → (n < n' → sgO (w' 328 (n + 40000)) = 0 ∧ w' 330 (n + 40000) = s) ∧ (n = n' → b'))
    (hp : ∀ p, n ≤ p → p < n' → plO w' nt nw s OW p) (hk : ∀ m, 0 ≤ m → m < mm → w' 341 m = 1 → w 341 m = 1 ∧ w' 344 m = w 344 m) (hk2 : ∀ m, mm ≤ m → m < mm' → w' 341 m = 1 → tgS w' n' s b' (w' 344 m) (-1)) (hK : nK w' n' mm' P') : GI w' N n' mm' nt nw P' s OW o b' := by
  obtain ⟨i1, i2, i3, i4, i5, i6, i7, i8, i9, i10, i11⟩ := h
  have hg : ∀ q r, tgS w n s b q r → tgS w' n' s b' q r := fun q r g => g.to hn h8 h0 (fun _ z => hb z)
  refine ⟨⟨hP, hN⟩, fun p g1 g2 => ?_, fun t g1 g2 => tyO_tb e (i3 t g1 g2) hg, fun v g1 g2 => whO_tb e (i4 v g1 g2) hg, fun m g1 g2 g3 => ?_, ⟨i6.1, by omega, i6.2.2.1, i6.2.2.2.1, by omega⟩, ⟨fun r g1 g2 => by rw [piR_tb e]; exact i7.1 r g1 g2, by rw [piR_tb e]; exact i7.2⟩, i8, fun g => ?_, fun g => ?_, hK⟩
  · by_cases c : p < n
    · obtain ⟨q1, q2, q3, q4⟩ := i2 p g1 c
      unfold plO
      rw [h8 p g1 c, h0 p g1 c, anc_tb e, enR_tb e]
      refine ⟨q1, q2, fun g => ?_, fun g => ?_⟩
      · rw [h9 p g1 c (Or.inl g)]
        refine (q3 g).imp id (fun ⟨r1, r2, r3⟩ => ⟨r1, ?_, r3.imp id (brO_tb e)⟩)
        rw [anc_tb e, e 335 _ (by decide) (by decide)]
        exact r2
      · rw [h9 p g1 c (Or.inr g)]
        exact q4 g
    · exact hp p (by omega) g2
  · by_cases c : m < mm
    · obtain ⟨z1, z2⟩ := hk m g1 c g3
      rw [z2]
      exact hg _ _ (i5 m g1 c z1)
    · exact hk2 m (by omega) g2 g3
  · by_cases c : 0 < n
    · have := h8 0 (by omega) c
      rw [show (0 : Int) + 40000 = 40000 by decide] at this
      rw [this]
      exact i9 c
    · have e0 : n = 0 := by omega
      have := (hb (i10 e0)).1 (by omega)
      rw [e0, show (0 : Int) + 40000 = 40000 by decide] at this
      exact this.1
  · have e0 : n = 0 := by omega
    exact (hb (i10 e0)).2 (by omega)
theorem EM.tb {w w' : eW} {n o x s : Int} (h : EM w w' n o x s) : tbE w w' := fun c k g1 g2 => h.1 c k (by omega)
/-- one instruction more -/
theorem GI.em {w w' : eW} {N n mm nt nw s o q x : Int} {P P' OW : Int → Prop} {b : Prop} (b' : Prop) (h : GI w N n mm nt nw P s OW o b) (he : EM w w' n q x s) (hP : PI w' (n + 1) nt P') (hN : NM w' N (n + 1) mm) (hPP : ∀ p, p < 0 → P p → P' p) (hb : sgO q = 0 ∨ ¬ b) (h46 : q = 46 → x = -1 ∨ OW x) (h49 : 49 ≤ q → (0 ≤ x ∧ x < nt) ∧ s = 3 * x + (q - 49)) : GI w' N (n + 1) mm nt nw P' s OW o b' := by
  have hn := h.2.2.2.2.2.1
  have e := he.tb
  refine h.grow e (by omega) (Int.le_refl mm) (fun k _ g => he.1 328 _ (by omega)) (fun k _ g => he.1 330 _ (by omega)) (fun k _ g _ => he.1 329 _ (by omega)) hP hN (fun z => ⟨fun _ => ⟨by rw [he.2.1]; exact hb.resolve_right (fun g => g z), he.2.2.2.1⟩, fun g => by omega⟩) (fun p g1 g2 => ?_) (fun m g1 g2 g3 => ⟨by rw [← he.1 341 m (by omega)]; exact g3, he.1 344 m (by omega)⟩) (fun m g1 g2 => by omega) (h.2.2.2.2.2.2.2.2.2.2.eq (fun m _ _ => he.1 341 m (by omega)) (fun m _ _ => he.1 344 m (by omega)) (fun k _ g => he.1 328 _ (by omega)) (by omega) hPP)
  have ep : p = n := by omega
  subst ep
  unfold plO
  rw [he.2.1, he.2.2.1, he.2.2.2.1]
  refine ⟨hn.1, Or.inl (anc.refl w' s), fun g => (h46 g).imp id (fun z => ?_), h49⟩
  have hv := h.2.2.2.2.2.2.2.1 x z
  refine ⟨hv, ?_, Or.inl z⟩
  rw [anc_tb e, e 335 _ (by decide) (by decide)]
  exact (h.2.2.2.1 x hv.1 hv.2).2.1 z
theorem GI.pr {w w' : eW} {N n mm nt nw s o : Int} {P OW : Int → Prop} {b : Prop} (h : GI w N n mm nt nw P s OW o b) (e : prE w w') : GI w' N n mm nt nw P s OW o b :=
  h.grow (fun c k g1 g2 => e c k (by omega)) (Int.le_refl n) (Int.le_refl mm) (fun k _ _ => e _ _ (by omega)) (fun k _ _ => e _ _ (by omega)) (fun k _ _ _ => e _ _ (by omega)) (h.1.1.pr e) (h.1.2.pr e) (fun z => ⟨fun g => by omega, fun _ => z⟩) (fun p g1 g2 => by omega) (fun m _ _ g => ⟨by rw [← e 341 m (by omega)]; exact g, e _ _ (by omega)⟩) (fun m g1 g2 => by omega) (h.2.2.2.2.2.2.2.2.2.2.eq (fun m _ _ => e _ _ (by omega)) (fun m _ _ => e _ _ (by omega)) (fun k _ _ => e _ _ (by omega)) (Int.le_refl n) (fun _ _ z => z))
theorem GB.pr {w w' : eW} {N n mm nt nw s o : Int} {P OW : Int → Prop} (h : GB w N n mm nt nw P s OW o) (e : prE w w') : GB w' N n mm nt nw P s OW o := ⟨h.1.pr e, by rw [e.dq]; exact h.2.1, fun q g => (h.2.2 q g).pr e⟩
theorem GA.pr {w w' : eW} {N n mm nt nw s o : Int} {P OW : Int → Prop} (h : GA w N n mm nt nw P s OW o) (e : prE w w') : GA w' N n mm nt nw P s OW o := ⟨h.1.pr e, by rw [e.dq]; exact h.2.1, fun q => (h.2.2 q).pr e⟩
theorem GS.pr {w w' : eW} {N n mm nt nw s o d : Int} {P OW : Int → Prop} (h : GS w N n mm nt nw P s OW o d) (e : prE w w') : GS w' N n mm nt nw P s OW o d := ⟨h.1.pr e, by rw [e.dq]; exact h.2.1, fun q g => (h.2.2 q g).pr e⟩
/-- the next place may be gone to -/
theorem GI.bm {w : eW} {N n mm nt nw s o : Int} {P OW : Int → Prop} {b b' : Prop} (h : GI w N n mm nt nw P s OW o b) (g : b → b') : GI w N n mm nt nw P s OW o b' :=
  h.grow (fun _ _ _ _ => rfl) (Int.le_refl n) (Int.le_refl mm) (fun _ _ _ => rfl) (fun _ _ _ => rfl) (fun _ _ _ _ => rfl) h.1.1 h.1.2 (fun z => ⟨fun q => by omega, fun _ => g z⟩) (fun p g1 g2 => by omega) (fun m _ _ q => ⟨q, rfl⟩) (fun m g1 g2 => by omega) h.2.2.2.2.2.2.2.2.2.2
theorem GI.ol {w : eW} {N n mm nt nw s o o' : Int} {P OW : Int → Prop} {b : Prop} (h : GI w N n mm nt nw P s OW o b) (g : o ≤ o') : GI w N n mm nt nw P s OW o' b := ⟨h.1, h.2.1, h.2.2.1, h.2.2.2.1, h.2.2.2.2.1, h.2.2.2.2.2.1, ⟨h.2.2.2.2.2.2.1.1, Int.le_trans h.2.2.2.2.2.2.1.2 g⟩, h.2.2.2.2.2.2.2⟩
end
