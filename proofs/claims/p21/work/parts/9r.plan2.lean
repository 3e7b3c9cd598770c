noncomputable section
def mNc (c _k : Int) : Prop := c = 347 ∨ c = 348
theorem mT_Nc {w w' : eW} (f : e_fr mNc w w') (h : e_Has mTy w) : e_Has mTy w' := mT_S (f.mono (fun c k q => by unfold mNc at q; unfold mS; omega)) h
/-- the joint j of the arm a, on a grid as wide as n -/
def ncJ (w w' : eW) (a n j : Int) : Prop := w' 348 j = w 276 (36 * a + j + 32) - (w 276 (36 * a + j + 32) - w 288 (6 * a + j)) / n * n ∧ w' 347 j = (w 276 (36 * a + j + 32) - w 288 (6 * a + j)) / n + (w 289 (6 * a + j) - w 276 (36 * a + j + 32)) / n + 1 ∧ 1 ≤ w' 347 j ∧ w' 347 j ≤ 200001
theorem div_bd {x n m : Int} (hx : 0 ≤ x ∧ x ≤ m) (hn : 1 ≤ n) : (0 ≤ x / n ∧ x / n ≤ m) ∧ 0 ≤ x / n * n ∧ x / n * n ≤ x := by
  have h1 : 0 ≤ x / n := Int.ediv_nonneg hx.1 (by omega)
  have h2 : x / n ≤ x := Int.ediv_le_self n hx.1
  have h3 : x / n * n ≤ x := Int.ediv_mul_le x (by omega)
  have h4 : 0 ≤ x / n * n := Int.mul_nonneg h1 (by omega)
  omega
theorem mul_bd {x y m n : Int} (hx : 1 ≤ x ∧ x ≤ m) (hy : 1 ≤ y ∧ y ≤ n) : 1 ≤ x * y ∧ x * y ≤ m * n := by
  have h1 := Int.mul_le_mul hx.1 hy.1 (by decide) (by omega)
  have h2 := Int.mul_le_mul hx.2 hy.2 (by omega) (by omega)
  omega
theorem prd_congr {f g : Int → Int} : ∀ {n : Nat}, (∀ k : Int, 0 ≤ k → k < n → f k = g k) → prd f n = prd g n
  | 0, _ => rfl
  | n + 1, h => by
    show prd f n * f n = prd g n * g n
    rw [prd_congr (n := n) (fun k g1 g2 => h k g1 (by omega)), h n (by omega) (by omega)]
theorem nc_prd {v w' : eW} {y z q : Int} (h : q = prd (fun k => v 347 k) y.toNat) (h0 : 0 ≤ y) (he : ∀ k, k ≠ y → w' 347 k = v 347 k) (hz : w' 347 y = z) : q * z = prd (fun k => w' 347 k) (y + 1).toNat := by
  rw [show (y + 1).toNat = y.toNat + 1 by omega]
  show _ = prd (fun k => w' 347 k) y.toNat * w' 347 (y.toNat : Int)
  rw [show ((y.toNat : Nat) : Int) = y by omega, hz, h, prd_congr (f := fun k => w' 347 k) (g := fun k => v 347 k) (fun k g1 g2 => he k (by omega))]
theorem nc_all {w v w' : eW} {a n y : Int} (h : ∀ j, 0 ≤ j → j < y → ncJ w v a n j) (e7 : ∀ k, k ≠ y → w' 347 k = v 347 k) (e8 : ∀ k, k ≠ y → w' 348 k = v 348 k) (hn : ncJ w w' a n y) : ∀ j, 0 ≤ j → j < y + 1 → ncJ w w' a n j := fun j g1 g2 => by
  by_cases e : j = y
  · rw [e]; exact hn
  · have := h j g1 (by omega)
    unfold ncJ at this ⊢
    rw [e7 j e, e8 j e]
    exact this
theorem nc_big {v w' : eW} {y z : Int} (h : 1000 < prd (fun k => v 347 k) y.toNat) (h0 : 0 ≤ y) (he : ∀ k, k ≠ y → w' 347 k = v 347 k) (hz : w' 347 y = z) (h1 : 1 ≤ z) : 1000 < prd (fun k => w' 347 k) (y + 1).toNat := by
  rw [← nc_prd rfl h0 he hz]
  have := Int.mul_le_mul (show 1001 ≤ prd (fun k => v 347 k) y.toNat by omega) h1 (by decide) (by omega)
  omega
def mFo (c _k : Int) : Prop := c = 353
theorem mT_Fo {w w' : eW} (f : e_fr mFo w w') (h : e_Has mTy w) : e_Has mTy w' := mT_S (f.mono (fun c k q => by unfold mFo at q; unfold mS; omega)) h
def mPm (c k : Int) : Prop := c = 276 ∨ (c = 275 ∧ ((58 ≤ k ∧ k ≤ 60) ∨ (110 ≤ k ∧ k ≤ 112) ∨ k = 118)) ∨ (321 ≤ c ∧ c ≤ 325) ∨ (347 ≤ c ∧ c ≤ 353)
theorem wE_bd {w : eW} (h : bkE w) : 0 ≤ wE w ∧ wE w ≤ 200000 := by
  unfold wE
  by_cases e : w 275 5 = 0
  · rw [if_pos e]; decide
  · rw [if_neg e]; have := h.1; exact h.2.2 (by omega)
/-! a way that was found leads within the limits -/
theorem wyP.own {w w' : eW} {a i : Int} {P : Int → Int → Int} (h : wyP w a i P) (hi : 0 ≤ i) (hs : w 276 (36 * a + 19) ≤ 999) (h1 : w' 276 (36 * a + 19) = w 276 (36 * a + 19)) (h2 : w' 276 (36 * a + 26) = w 276 (36 * a + 26)) (h3 : ∀ c k, c = 286 ∨ c = 288 ∨ c = 289 → w' c k = w c k) (h4 : ∀ m, 0 ≤ m → m < 1000 → w' 276 (1000 * a + m + 21060) = w 276 (1000 * a + m + 21060)) : wyP w' a i P := by
  obtain ⟨q1, q2, q3⟩ := h
  refine ⟨fun m g1 g2 => ?_, fun m j g1 g2 g3 g4 => ?_, fun m j g1 g2 g3 g4 => ?_⟩
  · rw [h1] at g2
    rw [h4 m (by omega) (by omega), h3 286 _ (by omega)]
    exact q1 m g1 g2
  · rw [h1] at g2
    rw [h4 m (by omega) (by omega), h2]
    exact q2 m j g1 g2 g3 g4
  · rw [h1] at g2
    rw [h3 286 _ (by omega)] at g4
    rw [h3 288 _ (by omega), h3 289 _ (by omega)]
    exact q3 m j g1 g2 g3 g4
/-- what plan writes -/
def plW (a k : Int) : Prop := k = 36 * a + 19 ∨ k = 36 * a + 20 ∨ k = 36 * a + 21 ∨ k = 36 * a + 26 ∨ (1000 * a + 21060 ≤ k ∧ k < 1000 * a + 22060)
theorem mMo.plan {w w' : eW} {a : Int} (h : mMo w (-1)) (hty : moT w) (ha : 0 ≤ a ∧ a ≤ 3) (haA : a < w 275 10) (hst : w 276 (36 * a + 16) = 0) (hf : ∀ c k, moK c k ∨ (c = 276 ∧ 16 ≤ k ∧ k < 160) → ¬ (c = 276 ∧ plW a k) → w' c k = w c k) (hz : 0 ≤ w' 276 (36 * a + 19)) (hP : ∃ P, wyP w' a 0 P ∧ ∀ j, 0 ≤ j → j < w' 286 a → P 0 j = w' 276 (36 * a + j + 32)) : mMo w' (-1) := by
  obtain ⟨h1, h2, h3⟩ := h
  have f5 : ∀ c k, c = 286 ∨ c = 288 ∨ c = 289 ∨ c = 291 → w' c k = w c k := fun c k q => hf c k (Or.inl (by unfold moK; omega)) (by omega)
  have f7 : w' 275 10 = w 275 10 := hf 275 10 (Or.inl (by unfold moK; omega)) (by omega)
  have fa : ∀ b f, 0 ≤ b → b ≤ 3 → 16 ≤ f → f ≤ 51 → (b = a → f ≠ 19 ∧ f ≠ 20 ∧ f ≠ 21 ∧ f ≠ 26) → w' 276 (36 * b + f) = w 276 (36 * b + f) := fun b f g1 g2 g3 g4 g5 => hf 276 _ (Or.inr ⟨rfl, by omega, by omega⟩) (by unfold plW; omega)
  have fj : ∀ b j f, 0 ≤ b → b ≤ 3 → 0 ≤ j → j ≤ 5 → (f = 32 ∨ f = 38 ∨ f = 44) → w' 276 (36 * b + j + f) = w 276 (36 * b + j + f) := fun b j f g1 g2 g3 g4 g5 => hf 276 _ (Or.inr ⟨rfl, by omega, by omega⟩) (by unfold plW; omega)
  refine ⟨fun b j g1 g2 g3 g4 => ?_, fun b g1 g2 => ?_, fun e b g1 g2 => ?_⟩
  · rw [f5 286 _ (by omega)] at g4
    have y := hty.2 b g1 g2
    have q := h1 b j g1 g2 g3 g4
    unfold moJ at q ⊢
    rw [fj b j 32 g1 g2 g3 (by omega) (by omega), fj b j 38 g1 g2 g3 (by omega) (by omega), fj b j 44 g1 g2 g3 (by omega) (by omega), f5 288 _ (by omega), f5 289 _ (by omega), f5 291 _ (by omega), fa b 16 g1 g2 (by omega) (by omega) (by omega)]
    exact q
  · obtain ⟨q1, q2⟩ := h2 b g1 g2
    have e22 := fa b 22 g1 g2 (by omega) (by omega) (by omega)
    by_cases e : b = a
    · subst e
      refine ⟨fun _ => ⟨by rw [f7]; exact haA, hz, hP⟩, fun q => ?_⟩
      rw [e22] at q
      have := (q2 q).1
      omega
    · obtain ⟨y1, y2, y3, y4⟩ := hty.2 b g1 g2
      have f1 := fa b 19 g1 g2 (by omega) (by omega) (by omega)
      have f2 := fa b 20 g1 g2 (by omega) (by omega) (by omega)
      have f3 := fa b 23 g1 g2 (by omega) (by omega) (by omega)
      have f4 := fa b 26 g1 g2 (by omega) (by omega) (by omega)
      have f8 := fa b 16 g1 g2 (by omega) (by omega) (by omega)
      have f6 : ∀ m, 0 ≤ m → m < 1000 → w' 276 (1000 * b + m + 21060) = w 276 (1000 * b + m + 21060) := fun m p1 p2 => hf 276 _ (Or.inl (by unfold moK; omega)) (by unfold plW; omega)
      refine ⟨fun q => ?_, fun q => ?_⟩
      · rw [f2] at q
        obtain ⟨z1, z2, P, z3, z4⟩ := q1 q
        refine ⟨by rw [f7]; exact z1, by rw [f1]; exact z2, P, z3.own (by omega) y1 f1 f4 (fun c k q => f5 c k (by omega)) f6, fun j g3 g4 => ?_⟩
        rw [f5 286 _ (by omega)] at g4
        rw [fj b j 32 g1 g2 g3 (by omega) (by omega)]
        exact z4 j g3 g4
      · rw [e22] at q
        obtain ⟨z1, z2, P, z3, z4⟩ := q2 q
        rw [f3, f1, f8]
        refine ⟨z1, z2, P, z3.own y2 y1 f1 f4 (fun c k q => f5 c k (by omega)) f6, fun j g3 g4 => ?_⟩
        rw [f5 286 _ (by omega)] at g4
        rw [fj b j 32 g1 g2 g3 (by omega) (by omega), fj b j 44 g1 g2 g3 (by omega) (by omega)]
        exact z4 j g3 g4
  · rw [hf 276 1 (Or.inl (by unfold moK; omega)) (by unfold plW; omega)] at e
    rw [f7] at g2
    have := hty.1
    rw [fa b 16 g1 (by omega) (by omega) (by omega) (by omega)]
    exact h3 e b g1 g2
/-- the grid of a plan, as the cell has it -/
def ndF (w : eW) (a n j : Int) : Int := (w 276 (36 * a + j + 32) - w 288 (6 * a + j)) / n + (w 289 (6 * a + j) - w 276 (36 * a + j + 32)) / n + 1
def fsF (w : eW) (a n j : Int) : Int := w 276 (36 * a + j + 32) - (w 276 (36 * a + j + 32) - w 288 (6 * a + j)) / n * n
/-- plan may be carried out -/
def plA (w : eW) (a n m : Int) : Prop := ((0 ≤ a ∧ a < w 275 10) ∧ (1 ≤ n ∧ n ≤ 16) ∧ 0 ≤ m ∧ m ≤ 2000) ∧ w 275 3 = 1 ∧ w 276 (36 * a + 16) = 0 ∧ prd (ndF w a n) (w 286 a).toNat ≤ 1000 ∧ ∀ j, 0 ≤ j → j < w 286 a → (w 288 (6 * a + j) ≤ w 276 (j + 8) ∧ w 276 (j + 8) ≤ w 289 (6 * a + j)) ∧ ∃ q, w 276 (j + 8) - fsF w a n j = q * n
def plN (w : eW) (a n z : Int) (f : Int → Int) (k : Int) : Int := if k = 36 * a + 19 then z else if k = 36 * a + 26 then n else if k = 36 * a + 20 then 1 else if k = 36 * a + 21 then 1 else if 1000 * a + 21060 ≤ k ∧ k < 1000 * a + 22060 then (if k - (1000 * a + 21060) < z then f (k - (1000 * a + 21060)) else 0) else w 276 k
theorem gr_in {w v : eW} {a n j x q : Int} (h : ncJ w v a n j) (hn : 1 ≤ n) (hV : w 288 (6 * a + j) ≤ w 276 (36 * a + j + 32) ∧ w 276 (36 * a + j + 32) ≤ w 289 (6 * a + j)) (hx : w 288 (6 * a + j) ≤ x ∧ x ≤ w 289 (6 * a + j)) (hq : x - v 348 j = q * n) : (0 ≤ q ∧ q < v 347 j) ∧ (x - v 348 j) / n = q := by
  obtain ⟨h1, h2, -, -⟩ := h
  exact ⟨aim_grid hn hV rfl rfl h1 h2 hx hq, by rw [hq, Int.mul_ediv_cancel _ (by omega)]⟩
theorem gr_val {w v : eW} {a n j : Int} (h : ncJ w v a n j) : w 276 (36 * a + j + 32) - v 348 j = (w 276 (36 * a + j + 32) - w 288 (6 * a + j)) / n * n := by
  rw [h.1]; omega
theorem gr_bd {w v : eW} {a n j : Int} (h : ncJ w v a n j) (hn : 1 ≤ n) (hV : w 288 (6 * a + j) ≤ w 276 (36 * a + j + 32) ∧ w 276 (36 * a + j + 32) ≤ w 289 (6 * a + j)) (hb : -100000 ≤ w 288 (6 * a + j) ∧ w 289 (6 * a + j) ≤ 100000) : -100000 ≤ v 348 j ∧ v 348 j ≤ 100000 := by
  have := div_bd (x := w 276 (36 * a + j + 32) - w 288 (6 * a + j)) (n := n) (m := 200000) (by omega) hn
  rw [h.1]
  omega
/-- the steps that were found, as a way -/
theorem wy_new {w v w' : eW} {a n m z x N' : Int} {f d : Int → Int} (hF : plF a m f) (hm : w 286 a = m) (hf : ∀ k, v 347 k = f k) (hn : 1 ≤ n) (hJ : ∀ j, 0 ≤ j → j < m → ncJ w v a n j) (hV : ∀ j, 0 ≤ j → j < m → w 288 (6 * a + j) ≤ w 276 (36 * a + j + 32) ∧ w 276 (36 * a + j + 32) ≤ w 289 (6 * a + j)) (hd : ∀ j, d j = (w 276 (36 * a + j + 32) - v 348 j) / n) (hx : x = smd f d m.toNat) {u : eW} (hw : ∃ y', wlk u f m N' x z y')
    (e1 : w' 276 (36 * a + 19) = z) (e2 : w' 276 (36 * a + 26) = n) (e3 : ∀ c k, c = 286 ∨ c = 288 ∨ c = 289 → w' c k = w c k) (e4 : ∀ i, 0 ≤ i → i < z → w' 276 (1000 * a + i + 21060) = u 353 i) (e5 : ∀ j, 0 ≤ j → j < m → w' 276 (36 * a + j + 32) = w 276 (36 * a + j + 32)) : ∃ P, wyP w' a 0 P ∧ ∀ j, 0 ≤ j → j < w' 286 a → P 0 j = w' 276 (36 * a + j + 32) := by
  obtain ⟨-, F2, F3, -⟩ := hF
  obtain ⟨y', N, N0, -, Ns⟩ := hw
  have hfp : ∀ k : Int, 0 ≤ k → k < (m.toNat : Nat) → 1 ≤ f k := fun k g1 g2 => (F3 k g1 (by omega)).1
  have cj : ∀ j : Int, 0 ≤ j → ((j.toNat : Nat) : Int) = j := fun j g => by omega
  have em : w' 286 a = m := by rw [e3 286 a (by omega)]; exact hm
  have dd : ∀ j, 0 ≤ j → j < m → (0 ≤ d j ∧ d j < f j) ∧ w 276 (36 * a + j + 32) - v 348 j = d j * n := fun j g1 g2 => by
    have q := gr_in (hJ j g1 g2) hn (hV j g1 g2) (hV j g1 g2) (gr_val (hJ j g1 g2))
    rw [hd j, q.2, ← hf j]
    exact ⟨q.1, gr_val (hJ j g1 g2)⟩
  refine ⟨fun i j => if j < m then v 348 j + n * dg f (N i) j.toNat else 0, ⟨fun i g1 g2 => ?_, fun i j g1 g2 g3 g4 => ?_, fun i j g1 g2 g3 g4 => ?_⟩, fun j g1 g2 => ?_⟩
  · rw [e1] at g2
    rw [e4 i g1 g2, em]
    exact (Ns i g1 g2).1.2
  · rw [e1] at g2
    rw [e4 i g1 g2, e2]
    obtain ⟨s1, s2, -⟩ := Ns i g1 g2
    show (_ → (if j < m then v 348 j + n * dg f (N (i + 1)) j.toNat else 0) = (if j < m then v 348 j + n * dg f (N i) j.toNat else 0) + n) ∧ (_ → (if j < m then v 348 j + n * dg f (N (i + 1)) j.toNat else 0) = (if j < m then v 348 j + n * dg f (N i) j.toNat else 0) - n) ∧ (_ → _ → (if j < m then v 348 j + n * dg f (N (i + 1)) j.toNat else 0) = (if j < m then v 348 j + n * dg f (N i) j.toNat else 0))
    by_cases c : j < m
    · rw [if_pos c, if_pos c]
      have l := lnx.dg (n := m.toNat) (i := j.toNat) s2 (by omega) (by omega) hfp
      rw [cj j g3] at l
      refine ⟨fun g => ?_, fun g => ?_, fun p1 p2 => ?_⟩
      · rw [l.1 g, Int.mul_add, Int.mul_one]; omega
      · rw [l.2.1 g, Int.mul_sub, Int.mul_one]; omega
      · rw [l.2.2 p1 p2]
    · rw [if_neg c, if_neg c]
      exact ⟨fun g => by omega, fun g => by omega, fun _ _ => rfl⟩
  · rw [e1] at g2
    rw [em] at g4
    show w' 288 _ ≤ (if j < m then v 348 j + n * dg f (N i) j.toNat else 0) ∧ (if j < m then v 348 j + n * dg f (N i) j.toNat else 0) ≤ w' 289 _
    rw [if_pos g4, e3 288 _ (by omega), e3 289 _ (by omega)]
    obtain ⟨h1, h2, -, -⟩ := hJ j g3 g4
    have b := dg_in (f := f) (x := N i) (j := j.toNat) (by rw [cj j g3]; exact (F3 j g3 g4).1)
    rw [cj j g3, ← hf j] at b
    exact val_grid hn (hV j g3 g4) rfl rfl h1 h2 b
  · rw [em] at g2
    show (if j < m then v 348 j + n * dg f (N 0) j.toNat else 0) = _
    rw [if_pos g2, N0, hx, smd_dg (n := m.toNat) (by omega) (fun k p1 p2 => (dd k p1 (by omega)).1), cj j g1, e5 j g1 g2]
    have := (dd j g1 g2).2
    rw [Int.mul_comm (d j) n] at this
    omega
theorem plW_tk {a k v : Int} (ha : 0 ≤ a ∧ a ≤ 3) (hv : 0 ≤ v ∧ v ≤ 15) (h : plW a k) : k ≠ 1260 * v + 416 ∧ ¬ tkK v k := by
  unfold plW at h
  exact ⟨by omega, fun q => by unfold tkK at q; omega⟩
theorem mInv.plan {w w' : eW} {G : Int → Gh} {a : Int} (h : mInv w G) (ha : 0 ≤ a ∧ a ≤ 3) (haA : a < w 275 10) (hst : w 276 (36 * a + 16) = 0) (hF : e_fr (fun c k => (c = 276 ∧ plW a k) ∨ (c = 275 ∧ ((58 ≤ k ∧ k ≤ 60) ∨ (110 ≤ k ∧ k ≤ 112) ∨ k = 118)) ∨ (321 ≤ c ∧ c ≤ 325) ∨ (347 ≤ c ∧ c ≤ 353)) w w') (hT : e_Has mTy w') (hz : 0 ≤ w' 276 (36 * a + 19)) (hP : ∃ P, wyP w' a 0 P ∧ ∀ j, 0 ≤ j → j < w' 286 a → P 0 j = w' 276 (36 * a + j + 32)) : mInv w' G := by
  have h0 := h
  obtain ⟨t1, -, -, -, -, h6, h7, h8, h9⟩ := h0
  have hp := e_Has.get t1 (c := 275) (k := 40) (lo := 0) (hi := 32) rfl (by decide)
  refine h.next hF hT (fun c k q => by unfold cfN; omega) (mMo.plan h6 (e_Has.mo t1) ha haA hst (fun c k q1 q2 => hF c k (fun q => ?_)) hz hP) (mOr.fr h7 hp.2 (e_Has.orn t1) (e_Has.orw t1 hp.2) (fun k q => hF _ _ (fun q1 => ?_))) (fun v v1 v2 => tkOk.hop h8 (h9 v v1 v2) hF (fun c k q => ⟨by omega, fun e => plW_tk ha ⟨v1, v2⟩ (by rcases q with q | q; exact q.2; exfalso; omega)⟩))
  · rcases q with q | q
    · exact q2 q
    · rcases q1 with q1 | q1
      · unfold moK at q1; omega
      · omega
  · rcases q1 with q1 | q1
    · have := q1.2; unfold plW at this; unfold orK at q; omega
    · omega
/-- a plan was carried out, and written down -/
def plD (w w' : eW) (G : Int → Gh) (a n m : Int) : Prop := ∃ (z : Int) (f : Int → Int) (wm : eW), (0 ≤ z ∧ z ≤ 999) ∧ e_fr mPm w wm ∧ (∀ k, wm 276 k = plN w a n z f k) ∧ mInv wm G ∧ (∀ j, 0 ≤ j → j < z → wm 353 j = f j) ∧ wrR wm w' (w 275 5) (wE w) 10 a n m ∧ wm 275 118 = w 275 118 + 1 ∧ wm 275 118 ≤ 60
theorem plN_eq {w : eW} {a n z : Int} {f g : Int → Int} (h : ∀ i, 0 ≤ i → i < z → f i = g i) (k : Int) : plN w a n z f k = plN w a n z g k := by
  unfold plN
  by_cases c5 : 1000 * a + 21060 ≤ k ∧ k < 1000 * a + 22060
  · by_cases c6 : k - (1000 * a + 21060) < z
    · rw [if_pos c5, if_pos c5, if_pos c6, if_pos c6, h _ (by omega) c6]
    · rw [if_pos c5, if_pos c5, if_neg c6, if_neg c6]
  · rw [if_neg c5, if_neg c5]
end
