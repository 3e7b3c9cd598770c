noncomputable section
/-- the digit j of x -/
def dg (f : Int → Int) (x : Int) (j : Nat) : Int := dv f x j % f j
theorem prd_mul {f : Int → Int} {j : Nat} : ∀ {n : Nat}, j ≤ n → ∃ c, prd f n = prd f j * c
  | 0, h => ⟨1, by rw [show j = 0 by omega, Int.mul_one]⟩
  | n + 1, h => by
    rcases Nat.lt_or_ge j (n + 1) with g | g
    · obtain ⟨c, hc⟩ := prd_mul (f := f) (n := n) (by omega : j ≤ n)
      exact ⟨c * f n, by show prd f n * f n = _; rw [hc, Int.mul_assoc]⟩
    · exact ⟨1, by rw [show n + 1 = j by omega, Int.mul_one]⟩
theorem dg_in {f : Int → Int} {x : Int} {j : Nat} (h : 1 ≤ f j) : 0 ≤ dg f x j ∧ dg f x j < f j := ⟨Int.emod_nonneg _ (by omega), Int.emod_lt_of_pos _ (by omega)⟩
/-- one more in the digit j: so it is, and the others stay -/
theorem dg_up {f : Int → Int} {x : Int} {n j i : Nat} (hj : j < n) (hi : i < n) (h : ∀ k : Int, 0 ≤ k → k < n → 1 ≤ f k) (hd : dg f x j + 1 < f j) : dg f (x + prd f j) i = if i = j then dg f x j + 1 else dg f x i := by
  have hpj : ∀ m : Nat, m ≤ n → ∀ k : Int, 0 ≤ k → k < m → 1 ≤ f k := fun m hm k g1 g2 => h k g1 (by omega)
  have hfj := h j (by omega) (by omega)
  have hfi := h i (by omega) (by omega)
  have up := dv_up (f := f) (x := x) (j := j) (hpj j (by omega))
  have b1 := dg_in (x := x) hfj
  rcases Nat.lt_trichotomy i j with g | g | g
  · rw [if_neg (by omega)]
    unfold dg
    rw [dv_eq (hpj i (by omega)), dv_eq (hpj i (by omega))]
    obtain ⟨c, hc⟩ := prd_mul (f := f) (j := i + 1) (n := j) g
    have h0 := prd_pos (hpj i (by omega))
    rw [hc, show prd f (i + 1) = prd f i * f i from rfl, Int.mul_assoc, Int.add_mul_ediv_left _ _ (by omega), Int.add_mul_emod_self_left]
  · rw [if_pos g, g]
    unfold dg
    rw [up]
    unfold dg at hd b1
    have e := Int.mul_ediv_add_emod (dv f x j) (f j)
    rw [show dv f x j + 1 = (dv f x j % f j + 1) + f j * (dv f x j / f j) by omega, Int.add_mul_emod_self_left, Int.emod_eq_of_lt (by omega) hd]
  · rw [if_neg (by omega)]
    have hk : ∀ m : Nat, j + 1 ≤ m → dv f (x + prd f j) m = dv f x m := by
      intro m
      induction m with
      | zero => intro g; omega
      | succ m ih =>
        intro g2
        show dv f (x + prd f j) m / f m = dv f x m / f m
        rcases Nat.lt_or_ge j m with q | q
        · rw [ih (by omega)]
        · rw [show m = j by omega, up]
          unfold dg at hd b1
          have e := Int.mul_ediv_add_emod (dv f x j) (f j)
          rw [show dv f x j + 1 = (dv f x j % f j + 1) + f j * (dv f x j / f j) by omega, Int.add_mul_ediv_left _ _ (by omega), Int.ediv_eq_zero_of_lt (by omega) hd, Int.zero_add]
    unfold dg
    rw [hk i g]
/-- the node with the digits d -/
def smd (f d : Int → Int) : Nat → Int
  | 0 => 0
  | n + 1 => smd f d n + prd f n * d n
theorem smd_in {f d : Int → Int} : ∀ {n : Nat}, (∀ k : Int, 0 ≤ k → k < n → 0 ≤ d k ∧ d k < f k) → 0 ≤ smd f d n ∧ smd f d n < prd f n
  | 0, _ => by show (0 : Int) ≤ 0 ∧ (0 : Int) < 1; omega
  | n + 1, h => by
    have h1 := smd_in (n := n) (fun k g1 g2 => h k g1 (by omega))
    have h2 := h n (by omega) (by omega)
    show 0 ≤ smd f d n + prd f n * d n ∧ smd f d n + prd f n * d n < prd f n * f n
    have h3 : 0 ≤ prd f n * d n := Int.mul_nonneg (by omega) h2.1
    have h4 : prd f n * (d n + 1) ≤ prd f n * f n := Int.mul_le_mul_of_nonneg_left (by omega) (by omega)
    rw [Int.mul_add, Int.mul_one] at h4
    omega
theorem smd_dg {f d : Int → Int} {j : Nat} : ∀ {n : Nat}, j < n → (∀ k : Int, 0 ≤ k → k < n → 0 ≤ d k ∧ d k < f k) → dg f (smd f d n) j = d j
  | 0, h, _ => by omega
  | n + 1, hj, h => by
    have hp : ∀ m : Nat, m ≤ n + 1 → ∀ k : Int, 0 ≤ k → k < m → 1 ≤ f k := fun m hm k g1 g2 => by have := h k g1 (by omega); omega
    have h0 := prd_pos (hp j (by omega))
    have hs := smd_in (f := f) (d := d) (n := j) (fun k g1 g2 => h k g1 (by omega))
    have hd := h j (by omega) (by omega)
    rcases Nat.lt_or_ge j n with g | g
    · have ih := smd_dg (n := n) g (fun k g1 g2 => h k g1 (by omega))
      unfold dg at ih ⊢
      rw [dv_eq (hp j (by omega))] at ih ⊢
      show (smd f d n + prd f n * d n) / prd f j % f j = d j
      obtain ⟨c, hc⟩ := prd_mul (f := f) (j := j + 1) (n := n) g
      rw [hc, show prd f (j + 1) = prd f j * f j from rfl, Int.mul_assoc (prd f j), Int.mul_assoc (prd f j), Int.add_mul_ediv_left _ _ (by omega), Int.mul_assoc, Int.add_mul_emod_self_left]
      exact ih
    · rw [show n = j by omega]
      unfold dg
      rw [dv_eq (hp j (by omega))]
      show (smd f d j + prd f j * d j) / prd f j % f j = d j
      rw [Int.add_mul_ediv_left _ _ (by omega), Int.ediv_eq_zero_of_lt hs.1 hs.2, Int.zero_add, Int.emod_eq_of_lt hd.1 hd.2]
/-- from x by the step s to y -/
def lnx (f : Int → Int) (x y s : Int) : Prop := (s % 2 = 0 ∧ y = x + prd f (s / 2).toNat ∧ dg f x (s / 2).toNat + 1 < f (s / 2)) ∨ (s % 2 = 1 ∧ y = x - prd f (s / 2).toNat ∧ 0 < dg f x (s / 2).toNat)
/-- and the edge is free -/
def lnk (w : eW) (f : Int → Int) (x y s : Int) : Prop := lnx f x y s ∧ w 352 (6 * (if s % 2 = 0 then x else y) + s / 2) = 1
theorem lnx.in {f : Int → Int} {x y s : Int} {n : Nat} (h : lnx f x y s) (hs : 0 ≤ s ∧ s < 2 * n) (hf : ∀ k : Int, 0 ≤ k → k < n → 1 ≤ f k) (hx : 0 ≤ x ∧ x < prd f n) : 0 ≤ y ∧ y < prd f n := by
  have e : (((s / 2).toNat : Nat) : Int) = s / 2 := by omega
  have hp := prd_pos (f := f) (n := (s / 2).toNat) (fun k g1 g2 => hf k g1 (by omega))
  rcases h with ⟨h1, rfl, h3⟩ | ⟨h1, rfl, h3⟩
  · rw [← e] at h3
    have := dv_room (f := f) (x := x) (j := (s / 2).toNat) (n := n) (by omega) hf hx h3
    omega
  · have := dv_low (f := f) (x := x) (j := (s / 2).toNat) (fun k g1 g2 => hf k g1 (by omega)) hx.1 (hf _ (by omega) (by omega)) h3
    omega
def flp (s : Int) : Int := if s % 2 = 0 then s + 1 else s - 1
theorem lnx.back {f : Int → Int} {x y s : Int} {n : Nat} (h : lnx f x y s) (hs : 0 ≤ s ∧ s < 2 * n) (hf : ∀ k : Int, 0 ≤ k → k < n → 1 ≤ f k) : lnx f y x (flp s) := by
  have e : (((s / 2).toNat : Nat) : Int) = s / 2 := by omega
  have hfj := hf (s / 2) (by omega) (by omega)
  unfold flp
  rcases h with ⟨h1, rfl, h3⟩ | ⟨h1, rfl, h3⟩
  · rw [if_pos h1]
    refine Or.inr ⟨by omega, ?_, ?_⟩
    · rw [show (s + 1) / 2 = s / 2 by omega]; omega
    · rw [show (s + 1) / 2 = s / 2 by omega, dg_up (n := n) (j := (s / 2).toNat) (by omega) (by omega) hf (by rw [e]; exact h3), if_pos rfl]
      have := dg_in (f := f) (x := x) (j := (s / 2).toNat) (by rw [e]; exact hfj)
      omega
  · rw [if_neg (by omega)]
    refine Or.inl ⟨by omega, ?_, ?_⟩
    · rw [show (s - 1) / 2 = s / 2 by omega]; omega
    · rw [show (s - 1) / 2 = s / 2 by omega]
      have hi := dg_in (f := f) (x := x) (j := (s / 2).toNat) (by rw [e]; exact hfj)
      have hp : ∀ k : Int, 0 ≤ k → k < ((s / 2).toNat : Nat) → 1 ≤ f k := fun k g1 g2 => hf k g1 (by omega)
      -- the digit of x - prd is one less
      have up := dv_up (f := f) (x := x - prd f (s / 2).toNat) (j := (s / 2).toNat) hp
      rw [Int.sub_add_cancel] at up
      unfold dg at h3 hi ⊢
      rw [e] at h3 hi ⊢
      have q1 := Int.mul_ediv_add_emod (dv f x (s / 2).toNat) (f (s / 2))
      rw [show dv f (x - prd f (s / 2).toNat) (s / 2).toNat = (dv f x (s / 2).toNat % f (s / 2) - 1) + f (s / 2) * (dv f x (s / 2).toNat / f (s / 2)) by omega, Int.add_mul_emod_self_left, Int.emod_eq_of_lt (by omega) (by omega)]
      omega
theorem lnk.back {w : eW} {f : Int → Int} {x y s : Int} {n : Nat} (h : lnk w f x y s) (hs : 0 ≤ s ∧ s < 2 * n) (hf : ∀ k : Int, 0 ≤ k → k < n → 1 ≤ f k) : lnk w f y x (flp s) := by
  refine ⟨h.1.back hs hf, ?_⟩
  have h2 := h.2
  unfold flp
  by_cases e : s % 2 = 0
  · rw [if_pos e] at h2
    rw [if_pos e, if_neg (by omega), show (s + 1) / 2 = s / 2 by omega]
    exact h2
  · rw [if_neg e] at h2
    rw [if_neg e, if_pos (by omega), show (s - 1) / 2 = s / 2 by omega]
    exact h2
theorem flp_in {s n : Int} (hs : 0 ≤ s ∧ s < 2 * n) : 0 ≤ flp s ∧ flp s < 2 * n := by unfold flp; split <;> omega
/-- what a step makes of the digits -/
theorem lnx.dg {f : Int → Int} {x y s : Int} {n i : Nat} (h : lnx f x y s) (hs : 0 ≤ s ∧ s < 2 * n) (hi : i < n) (hf : ∀ k : Int, 0 ≤ k → k < n → 1 ≤ f k) : (s = 2 * i → dg f y i = dg f x i + 1) ∧ (s = 2 * i + 1 → dg f y i = dg f x i - 1) ∧ (s ≠ 2 * i → s ≠ 2 * i + 1 → dg f y i = dg f x i) := by
  have e : (((s / 2).toNat : Nat) : Int) = s / 2 := by omega
  have hb := h.back hs hf
  rcases h with ⟨h1, rfl, h3⟩ | ⟨h1, h2, h3⟩
  · rw [dg_up (n := n) (j := (s / 2).toNat) (by omega) hi hf (by rw [e]; exact h3)]
    refine ⟨fun g => ?_, fun g => by omega, fun g1 g2 => ?_⟩
    · rw [if_pos (by omega), show (s / 2).toNat = i by omega]
    · rw [if_neg (by omega)]
  · unfold flp at hb
    rw [if_neg (by omega)] at hb
    rcases hb with ⟨b1, b2, b3⟩ | ⟨b1, -, -⟩
    · rw [show (s - 1) / 2 = s / 2 by omega] at b2 b3
      have u := dg_up (f := f) (x := y) (n := n) (j := (s / 2).toNat) (i := i) (by omega) hi hf (by rw [e]; exact b3)
      rw [← b2] at u
      refine ⟨fun g => by omega, fun g => ?_, fun g1 g2 => ?_⟩
      · rw [if_pos (by omega), show (s / 2).toNat = i by omega] at u; omega
      · rw [if_neg (by omega)] at u; omega
    · omega
/-! the planner: its plan, its search -/
def plF (a m : Int) (f : Int → Int) : Prop := (0 ≤ a ∧ a ≤ 3) ∧ (0 ≤ m ∧ m ≤ 6) ∧ (∀ k, 0 ≤ k → k < m → 1 ≤ f k ∧ f k ≤ 200001) ∧ prd f m.toNat ≤ 1000
def plC (w : eW) (a m : Int) (f : Int → Int) : Prop := w 275 110 = a ∧ w 286 a = m ∧ (∀ k, w 347 k = f k) ∧ (1 ≤ w 275 111 ∧ w 275 111 ≤ 16) ∧ (-2147483648 ≤ w 275 112 ∧ w 275 112 ≤ 2147483647) ∧ (∀ k, 0 ≤ k → k < m → -2147483648 ≤ w 348 k ∧ w 348 k ≤ 2147483647) ∧ (∀ b, 0 ≤ b → b < w 275 10 → w 286 b ≤ 6 ∧ e_pk2 w (7 * b) (w 286 b))
def mCl (c k : Int) : Prop := ((c = 321 ∨ c = 322) ∧ 28 ≤ k ∧ k ≤ 34) ∨ (c = 275 ∧ 58 ≤ k ∧ k ≤ 60) ∨ c = 324 ∨ c = 325
def mTn1 (c _k : Int) : Prop := c = 323
def mFn (c k : Int) : Prop := mCl c k ∨ c = 323 ∨ c = 351
def mFe (c k : Int) : Prop := mCl c k ∨ c = 323 ∨ c = 351 ∨ c = 352
def mSe (c k : Int) : Prop := mCl c k ∨ c = 323 ∨ (349 ≤ c ∧ c ≤ 353)
theorem plC.fr {w w' : eW} {a m : Int} {f : Int → Int} (h : plC w a m f) (hA : w 275 10 ≤ 4) (hF : e_fr mSe w w') : plC w' a m f := by
  obtain ⟨h1, h2, h3, h4, h5, h6, h7⟩ := h
  have e : ∀ c k, ¬ mSe c k → w' c k = w c k := hF
  have eA : w' 275 10 = w 275 10 := e _ _ (by unfold mSe mCl; omega)
  refine ⟨by rw [e 275 110 (by unfold mSe mCl; omega)]; exact h1, by rw [e 286 _ (by unfold mSe mCl; omega)]; exact h2, fun k => by rw [e 347 k (by unfold mSe mCl; omega)]; exact h3 k, by rw [e 275 111 (by unfold mSe mCl; omega)]; exact h4, by rw [e 275 112 (by unfold mSe mCl; omega)]; exact h5, fun k g1 g2 => by rw [e 348 k (by unfold mSe mCl; omega)]; exact h6 k g1 g2, fun b g1 g2 => ?_⟩
  rw [e 286 b (by unfold mSe mCl; omega)]
  obtain ⟨q1, q2⟩ := h7 b g1 (by omega)
  exact ⟨q1, q2.fr hF (fun k g3 g4 => ⟨by unfold mSe mCl; omega, by unfold mSe mCl; omega⟩)⟩
theorem fe_se {c k : Int} (h : mFe c k) : mSe c k := h.elim (fun q => Or.inl q) (fun q => Or.inr (by omega))
theorem fn_se {c k : Int} (h : mFn c k) : mSe c k := h.elim (fun q => Or.inl q) (fun q => Or.inr (by omega))
theorem cl_se {c k : Int} (h : mCl c k) : mSe c k := Or.inl h
/-- edges that are known stay -/
def edK (w w' : eW) : Prop := ∀ e, w 352 e ≠ 0 → w' 352 e = w 352 e
theorem edK.trans {w w' v : eW} (h : edK w w') (g : edK w' v) : edK w v := fun e q => by
  have := h e q
  rw [g e (by omega), this]
theorem edK.same {w w' : eW} (h : ∀ e, w' 352 e = w 352 e) : edK w w' := fun e _ => h e
theorem lnk.ed {w w' : eW} {f : Int → Int} {x y s : Int} (h : lnk w f x y s) (g : edK w w') : lnk w' f x y s := ⟨h.1, by rw [g _ (by rw [h.2]; decide)]; exact h.2⟩
theorem bs_up_no1 {w : eW} {f : Int → Int} {x s : Int} (hs : s % 2 = 0) (h : f (s / 2) ≤ dg f x (s / 2).toNat + 1) : ∀ y, ¬ lnk w f x y s := fun y q => by
  rcases q.1 with ⟨-, -, q3⟩ | ⟨q1, -, -⟩ <;> omega
theorem bs_up_no2 {w w' : eW} {f : Int → Int} {x s j : Int} (hs : s % 2 = 0) (hj : j = s / 2) (hm : edK w w') (h : w' 352 (6 * x + j) ≠ 1) : ∀ y, ¬ lnk w f x y s := fun y q => by
  have := (q.ed hm).2
  rw [if_pos hs, ← hj] at this
  exact h this
theorem bs_up_yes {w w' : eW} {f : Int → Int} {x s j p : Int} (hs : s % 2 = 0) (hj : j = s / 2) (hp : p = prd f j.toNat) (hd : dg f x j.toNat + 1 < f j) (h : w' 352 (6 * x + j) = 1) : lnk w' f x (x + p) s ∧ ∀ y, lnk w f x y s → y = x + p := by
  subst hj hp
  refine ⟨⟨Or.inl ⟨hs, rfl, hd⟩, by rw [if_pos hs]; exact h⟩, fun y q => ?_⟩
  rcases q.1 with ⟨-, q2, -⟩ | ⟨q1, -, -⟩
  · exact q2
  · omega
theorem bs_dn_no1 {w : eW} {f : Int → Int} {x s : Int} (hs : s % 2 ≠ 0) (h : dg f x (s / 2).toNat ≤ 0) : ∀ y, ¬ lnk w f x y s := fun y q => by
  rcases q.1 with ⟨q1, -, -⟩ | ⟨-, -, q3⟩ <;> omega
theorem bs_dn_no2 {w w' : eW} {f : Int → Int} {x s j p : Int} (hs : s % 2 ≠ 0) (hj : j = s / 2) (hp : p = prd f j.toNat) (hm : edK w w') (h : w' 352 (6 * (x - p) + j) ≠ 1) : ∀ y, ¬ lnk w f x y s := fun y q => by
  subst hj hp
  have := (q.ed hm).2
  rw [if_neg hs] at this
  rcases q.1 with ⟨q1, -, -⟩ | ⟨-, q2, -⟩
  · omega
  · rw [q2] at this; exact h this
theorem bs_dn_yes {w w' : eW} {f : Int → Int} {x s j p : Int} (hs : s % 2 = 1) (hj : j = s / 2) (hp : p = prd f j.toNat) (hd : 0 < dg f x j.toNat) (h : w' 352 (6 * (x - p) + j) = 1) : lnk w' f x (x - p) s ∧ ∀ y, lnk w f x y s → y = x - p := by
  subst hj hp
  refine ⟨⟨Or.inr ⟨hs, rfl, hd⟩, by rw [if_neg (by omega)]; exact h⟩, fun y q => ?_⟩
  rcases q.1 with ⟨q1, -, -⟩ | ⟨-, q2, -⟩
  · omega
  · exact q2
/-- the search: t nodes are in the queue -/
def bfs (w : eW) (f : Int → Int) (m n t : Int) : Prop := (1 ≤ t ∧ t ≤ n) ∧ (∀ i, 0 ≤ i → i < t → (0 ≤ w 350 i ∧ w 350 i < n) ∧ 0 ≤ w 349 (w 350 i)) ∧ (∀ i j, 0 ≤ i → i < j → j < t → w 350 i ≠ w 350 j) ∧ (∀ x, 0 ≤ x → x < n → -1 ≤ w 349 x ∧ w 349 x < t) ∧ (∀ x, 0 ≤ x → x < n → 1 ≤ w 349 x → ∃ y s, (0 ≤ y ∧ y < n) ∧ (0 ≤ s ∧ s < 2 * m) ∧ lnk w f x y s ∧ w 349 y = w 349 x - 1)
theorem bfs.next {w w' : eW} {f : Int → Int} {m n t : Int} (h : bfs w f m n t) (hF : ∀ c k, c = 349 ∨ c = 350 → w' c k = w c k) (hE : edK w w') : bfs w' f m n t := by
  obtain ⟨h1, h2, h3, h4, h5⟩ := h
  have a : ∀ k, w' 349 k = w 349 k := fun k => hF _ _ (by omega)
  have b : ∀ k, w' 350 k = w 350 k := fun k => hF _ _ (by omega)
  refine ⟨h1, fun i g1 g2 => by rw [b, a]; exact h2 i g1 g2, fun i j g1 g2 g3 => by rw [b, b]; exact h3 i j g1 g2 g3, fun x g1 g2 => by rw [a]; exact h4 x g1 g2, fun x g1 g2 g3 => ?_⟩
  rw [a] at g3
  obtain ⟨y, s, q1, q2, q3, q4⟩ := h5 x g1 g2 g3
  exact ⟨y, s, q1, q2, q3.ed hE, by rw [a, a]; exact q4⟩
theorem bfs.room {w : eW} {f : Int → Int} {m n t b : Int} (h : bfs w f m n t) (hb : 0 ≤ b ∧ b < n) (hn : w 349 b < 0) : t + 1 ≤ n := by
  obtain ⟨h1, h2, h3, -, -⟩ := h
  have := pig n.toNat (t + 1).toNat (fun i => if i ≤ t then w 350 (i - 1) else b) (fun i g1 g2 => by
    show 0 ≤ (if i ≤ t then w 350 (i - 1) else b) ∧ (if i ≤ t then w 350 (i - 1) else b) < _
    split
    · have := (h2 (i - 1) (by omega) (by omega)).1; omega
    · omega) (fun i j g1 g2 g3 => by
    show (if i ≤ t then w 350 (i - 1) else b) ≠ (if j ≤ t then w 350 (j - 1) else b)
    rw [if_pos (by omega)]
    split
    · exact h3 (i - 1) (j - 1) (by omega) (by omega) (by omega)
    · intro e
      have := (h2 (i - 1) (by omega) (by omega)).2
      rw [e] at this
      omega)
  omega
theorem bfs.add {w w1 w' : eW} {f : Int → Int} {m n t k b s : Int} (h : bfs w f m n t) (hm : 0 ≤ m) (hf : ∀ k : Int, 0 ≤ k → k < m → 1 ≤ f k) (hk : 0 ≤ k ∧ k < t) (hb : 0 ≤ b ∧ b < n) (hn : w 349 b < 0) (hs : 0 ≤ s ∧ s < 2 * m) (hl : lnk w f (w 350 k) b s) (h1 : e_up w 349 b (w 349 (w 350 k) + 1) = w1) (h2 : e_up w1 350 t b = w') : bfs w' f m n (t + 1) := by
  have hr := h.room hb hn
  obtain ⟨a1, a2, a3, a4, a5⟩ := h
  have q0 := a2 k hk.1 hk.2
  have q1 := a4 _ q0.1.1 q0.1.2
  have e9 : ∀ x, x ≠ b → w' 349 x = w 349 x := fun x q => by rw [← h2, ← h1]; exact (e_up_ne _ _ (Or.inl (by decide))).trans (e_up_ne _ _ (Or.inr q))
  have e9b : w' 349 b = w 349 (w 350 k) + 1 := by rw [← h2, ← h1]; exact (e_up_ne _ _ (Or.inl (by decide))).trans (e_up_eq _ _ _ _)
  have e0 : ∀ x, x ≠ t → w' 350 x = w 350 x := fun x q => by rw [← h2, ← h1]; exact (e_up_ne _ _ (Or.inr q)).trans (e_up_ne _ _ (Or.inl (by decide)))
  have e0t : w' 350 t = b := by rw [← h2]; exact e_up_eq _ _ _ _
  have ed : edK w w' := edK.same (fun e => by rw [← h2, ← h1]; exact (e_up_ne _ _ (Or.inl (by decide))).trans (e_up_ne _ _ (Or.inl (by decide))))
  refine ⟨by omega, fun i g1 g2 => ?_, fun i j g1 g2 g3 => ?_, fun x g1 g2 => ?_, fun x g1 g2 g3 => ?_⟩
  · by_cases e : i = t
    · rw [e, e0t]; exact ⟨hb, by rw [e9b]; omega⟩
    · rw [e0 i e]
      have := a2 i g1 (by omega)
      exact ⟨this.1, by rw [e9 _ (fun q => by rw [q] at this; omega)]; exact this.2⟩
  · rw [e0 i (by omega)]
    by_cases e : j = t
    · rw [e, e0t]
      intro q
      have := (a2 i g1 (by omega)).2
      rw [q] at this
      omega
    · rw [e0 j e]; exact a3 i j g1 g2 (by omega)
  · by_cases e : x = b
    · rw [e, e9b]; omega
    · rw [e9 x e]; have := a4 x g1 g2; omega
  · by_cases e : x = b
    · refine ⟨w 350 k, flp s, q0.1, flp_in hs, ?_, ?_⟩
      · rw [e]; exact (lnk.back (n := m.toNat) hl (by omega) (fun k g1 g2 => hf k g1 (by omega))).ed ed
      · rw [e, e9b, e9 _ (fun q => by rw [q] at q0; omega)]; omega
    · rw [e9 x e] at g3
      obtain ⟨y, s', p1, p2, p3, p4⟩ := a5 x g1 g2 g3
      exact ⟨y, s', p1, p2, p3.ed ed, by rw [e9 x e, e9 y (fun q => by rw [q] at p4; omega)]; exact p4⟩
theorem bfs.start {w w1 w' : eW} {f : Int → Int} {m n b : Int} (hb : 0 ≤ b ∧ b < n) (h0 : ∀ x, 0 ≤ x → x < n → w 349 x = -1) (h1 : e_up w 349 b 0 = w1) (h2 : e_up w1 350 0 b = w') : bfs w' f m n 1 := by
  have e9 : ∀ x, x ≠ b → w' 349 x = w 349 x := fun x q => by rw [← h2, ← h1]; exact (e_up_ne _ _ (Or.inl (by decide))).trans (e_up_ne _ _ (Or.inr q))
  have e9b : w' 349 b = 0 := by rw [← h2, ← h1]; exact (e_up_ne _ _ (Or.inl (by decide))).trans (e_up_eq _ _ _ _)
  have e0t : w' 350 0 = b := by rw [← h2]; exact e_up_eq _ _ _ _
  refine ⟨by omega, fun i g1 g2 => ?_, fun i j g1 g2 g3 => by omega, fun x g1 g2 => ?_, fun x g1 g2 g3 => ?_⟩
  · rw [show i = 0 by omega, e0t, e9b]; exact ⟨hb, by decide⟩
  · by_cases e : x = b
    · rw [e, e9b]; omega
    · rw [e9 x e, h0 x g1 g2]; omega
  · exfalso
    by_cases e : x = b
    · rw [e, e9b] at g3; omega
    · rw [e9 x e, h0 x g1 g2] at g3; omega
/-- k steps of the way are found, they lead from x to y -/
def wlk (w : eW) (f : Int → Int) (m n x k y : Int) : Prop := ∃ N : Int → Int, N 0 = x ∧ N k = y ∧ ∀ i, 0 ≤ i → i < k → (0 ≤ w 353 i ∧ w 353 i < 2 * m) ∧ lnx f (N i) (N (i + 1)) (w 353 i) ∧ 0 ≤ N (i + 1) ∧ N (i + 1) < n
theorem wlk.zero (w : eW) (f : Int → Int) (m n x : Int) : wlk w f m n x 0 x := ⟨fun _ => x, rfl, rfl, fun i g1 g2 => by omega⟩
theorem wlk.next {w w' : eW} {f : Int → Int} {m n x k y : Int} (h : wlk w f m n x k y) (hF : ∀ i, w' 353 i = w 353 i) : wlk w' f m n x k y := by
  obtain ⟨N, h1, h2, h3⟩ := h
  exact ⟨N, h1, h2, fun i g1 g2 => by rw [hF]; exact h3 i g1 g2⟩
theorem wlk.add {w w' : eW} {f : Int → Int} {m n x k y z s : Int} (h : wlk w f m n x k y) (hk : 0 ≤ k) (hs : 0 ≤ s ∧ s < 2 * m) (hl : lnx f y z s) (hz : 0 ≤ z ∧ z < n) (hw : e_up w 353 k s = w') : wlk w' f m n x (k + 1) z := by
  obtain ⟨N, h1, h2, h3⟩ := h
  refine ⟨fun i => if i ≤ k then N i else z, by show (if (0 : Int) ≤ k then _ else _) = _; rw [if_pos hk]; exact h1, by show (if k + 1 ≤ k then _ else _) = _; rw [if_neg (by omega)], fun i g1 g2 => ?_⟩
  show _ ∧ lnx f (if i ≤ k then N i else z) (if i + 1 ≤ k then N (i + 1) else z) _ ∧ 0 ≤ (if i + 1 ≤ k then N (i + 1) else z) ∧ (if i + 1 ≤ k then N (i + 1) else z) < n
  rw [if_pos (by omega)]
  by_cases e : i = k
  · rw [e, if_neg (by omega), ← hw, e_up_eq, h2]
    exact ⟨hs, hl, hz⟩
  · rw [if_pos (by omega), ← hw, e_up_ne _ _ (Or.inr e)]
    exact h3 i g1 (by omega)
/-- the step that leads nearer is still to come -/
def nrr (w : eW) (f : Int → Int) (m n x s b : Int) : Prop := ∃ y u, (0 ≤ y ∧ y < n) ∧ (s ≤ u ∧ u < 2 * m) ∧ lnk w f x y u ∧ w 349 y = w 349 x - 1 ∧ (s = u → b = y)
theorem nrr.of {w w' : eW} {f : Int → Int} {m n t x b : Int} (h : bfs w f m n t) (hx : 0 ≤ x ∧ x < n) (h1 : 1 ≤ w 349 x) (hF : ∀ k, w' 349 k = w 349 k) (hE : edK w w') (hb : ∀ y, lnk w f x y 0 → y = b) : nrr w' f m n x 0 b := by
  obtain ⟨y, u, q1, q2, q3, q4⟩ := h.2.2.2.2 x hx.1 hx.2 h1
  exact ⟨y, u, q1, q2, q3.ed hE, by rw [hF, hF]; exact q4, fun e => by rw [← e] at q3; exact (hb y q3).symm⟩
theorem nrr.more {w w' : eW} {f : Int → Int} {m n x s b b' : Int} (h : nrr w f m n x s b) (hb : ¬ (0 ≤ b ∧ w 349 b = w 349 x - 1)) (hF : ∀ k, w' 349 k = w 349 k) (hE : edK w w') (hb' : ∀ y, lnk w f x y (s + 1) → y = b') : nrr w' f m n x (s + 1) b' := by
  obtain ⟨y, u, q1, q2, q3, q4, q5⟩ := h
  have hne : s ≠ u := fun e => by
    have e1 := q5 e
    rw [e1] at hb
    exact hb ⟨q1.1, q4⟩
  exact ⟨y, u, q1, by omega, q3.ed hE, by rw [hF, hF]; exact q4, fun e => by rw [← e] at q3; exact (hb' y q3).symm⟩
theorem nrr.lt {w : eW} {f : Int → Int} {m n x s b : Int} (h : nrr w f m n x s b) : s < 2 * m := by
  obtain ⟨y, u, -, q2, -⟩ := h; omega
theorem nrr.lt2 {w : eW} {f : Int → Int} {m n x s b : Int} (h : nrr w f m n x s b) (hb : ¬ (0 ≤ b ∧ w 349 b = w 349 x - 1)) : s + 1 < 2 * m := by
  obtain ⟨y, u, q1, q2, q3, q4, q5⟩ := h
  have hne : s ≠ u := fun e => by
    have e1 := q5 e
    rw [e1] at hb
    exact hb ⟨q1.1, q4⟩
  omega
theorem rem_dvd {x y : Int} (hx : -1000000 ≤ x ∧ x ≤ 1000000) (hy : 1 ≤ y) : (-1000000 ≤ x.tdiv y ∧ x.tdiv y ≤ 1000000) ∧ (-1000000 ≤ x.tdiv y * y ∧ x.tdiv y * y ≤ 1000000) := by
  by_cases h : 0 ≤ x
  · rw [Int.tdiv_eq_ediv_of_nonneg h]
    have h1 : 0 ≤ x / y := Int.ediv_nonneg h (by omega)
    have h2 : x / y ≤ x := Int.ediv_le_self y h
    have h3 : x / y * y ≤ x := Int.ediv_mul_le x (by omega)
    have h4 : 0 ≤ x / y * y := Int.mul_nonneg h1 (by omega)
    omega
  · have e : x.tdiv y = -((-x) / y) := by
      rw [← Int.tdiv_eq_ediv_of_nonneg (by omega), Int.neg_tdiv, Int.neg_neg]
    rw [e, Int.neg_mul]
    have h1 : 0 ≤ (-x) / y := Int.ediv_nonneg (by omega) (by omega)
    have h2 : (-x) / y ≤ -x := Int.ediv_le_self y (by omega)
    have h3 : (-x) / y * y ≤ -x := Int.ediv_mul_le (-x) (by omega)
    have h4 : 0 ≤ (-x) / y * y := Int.mul_nonneg h1 (by omega)
    omega
/-- an aim on the grid -/
theorem aim_grid {v lo hi n a first down up nodes q : Int} (hn : 1 ≤ n) (hv : lo ≤ v ∧ v ≤ hi) (hd : down = (v - lo) / n) (hu : up = (hi - v) / n) (hf : first = v - down * n) (hN : nodes = down + up + 1) (ha : lo ≤ a ∧ a ≤ hi) (hq : a - first = q * n) : 0 ≤ q ∧ q < nodes := by
  have e1 := Int.mul_ediv_add_emod (v - lo) n
  have e2 := Int.mul_ediv_add_emod (hi - v) n
  have b1 := Int.emod_lt_of_pos (v - lo) (show 0 < n by omega)
  have b2 := Int.emod_nonneg (v - lo) (show n ≠ 0 by omega)
  have b3 := Int.emod_lt_of_pos (hi - v) (show 0 < n by omega)
  have b4 := Int.emod_nonneg (hi - v) (show n ≠ 0 by omega)
  rw [← hd, Int.mul_comm] at e1
  rw [← hu, Int.mul_comm] at e2
  have h1 : -n < q * n := by omega
  have h2 : q * n < (down + up + 1) * n := by rw [Int.add_mul, Int.add_mul, Int.one_mul]; omega
  constructor
  · by_cases g : 0 ≤ q
    · exact g
    · exfalso
      have : q * n ≤ (-1) * n := Int.mul_le_mul_of_nonneg_right (by omega) (by omega)
      omega
  · rw [hN]
    exact Int.lt_of_mul_lt_mul_right h2 (by omega)
theorem val_grid {v lo hi n first down up nodes d : Int} (hn : 1 ≤ n) (hv : lo ≤ v ∧ v ≤ hi) (hd : down = (v - lo) / n) (hu : up = (hi - v) / n) (hf : first = v - down * n) (hN : nodes = down + up + 1) (h : 0 ≤ d ∧ d < nodes) : lo ≤ first + n * d ∧ first + n * d ≤ hi := by
  have e1 := Int.mul_ediv_add_emod (v - lo) n
  have e2 := Int.mul_ediv_add_emod (hi - v) n
  have b2 := Int.emod_nonneg (v - lo) (show n ≠ 0 by omega)
  have b4 := Int.emod_nonneg (hi - v) (show n ≠ 0 by omega)
  rw [← hd, Int.mul_comm] at e1
  rw [← hu, Int.mul_comm] at e2
  have h1 : 0 ≤ n * d := Int.mul_nonneg (by omega) h.1
  have h2 : n * d ≤ n * (down + up) := Int.mul_le_mul_of_nonneg_left (by omega) (by omega)
  rw [Int.mul_add, Int.mul_comm n down, Int.mul_comm n up] at h2
  omega
section E9p
variable {fd : Nat} {lay : List eY} {code : Nat → Nat → eE} {I : Nat → xM} {d M p : Nat} {l : eL} {w : eW} {Q : List eV → eW → Prop} {a b : Nat}
theorem e_Ok.l2ix {nx : Nat} {r : List eV} {x : Int} (hc : code M p = (0, ei_unL (fun x => (0, e32 x)) nx, a, b)) (hx : -2147483648 ≤ x ∧ x ≤ 2147483647) (h : e_Ok fd lay code I d M (nx, l, (0, x) :: r, w) Q) : e_Ok fd lay code I d M (p, l, (4, x) :: r, w) Q :=
  e_Ok.step hc rfl (show e_Ok fd lay code I d M (nx, l, (0, e32 x) :: r, w) Q by rw [e32_id hx.1 hx.2]; exact h)
theorem e_Ok.remd {nx : Nat} {r : List eV} {x y : Int} (hc : code M p = (0, ei_bin eF_rem nx, a, b)) (hx : -1000000 ≤ x ∧ x ≤ 1000000) (hy : 1 ≤ y) (h : ∀ z, (z = 0 ↔ ∃ q, x = q * y) → -2147483648 ≤ z → z ≤ 2147483647 → e_Ok fd lay code I d M (nx, l, (0, z) :: r, w) Q) : e_Ok fd lay code I d M (p, l, (0, y) :: (0, x) :: r, w) Q := by
  have hb := rem_dvd hx hy
  have e : eF_rem x y = some (e32 (x - x.tdiv y * y)) := by
    unfold eF_rem
    rw [decide_eq_false (by omega), e32_id (z := x.tdiv y) (by omega) (by omega), e32_id (z := x.tdiv y * y) (by omega) (by omega)]
    rfl
  refine e_Ok.step hc ?_ (h (e32 (x - x.tdiv y * y)) ⟨fun q => ?_, fun q => ?_⟩ (e32_in _).1 (e32_in _).2)
  · show (match eF_rem x y with | some z => _ | none => none) = _
    rw [e]
  · rw [e32_id (by omega) (by omega)] at q
    exact ⟨x.tdiv y, by omega⟩
  · obtain ⟨q, rfl⟩ := q
    rw [Int.mul_tdiv_cancel q (by omega), Int.sub_self]
    exact e32_id (by decide) (by decide)
end E9p
theorem c_410_f {d : Nat} {w : eW} (hT : e_Has mTy w) {x j m : Int} {f : Int → Int} (hf : ∀ k, w 347 k = f k) (hx : 0 ≤ x ∧ x ≤ 1000) (hj : 0 ≤ j ∧ j < m) (hm : m ≤ 6) (hN : ∀ k, 0 ≤ k → k < m → 1 ≤ f k ∧ f k ≤ 200001) : e_Ok 20 elay ecode eI d 410 (0, [(0, (1, 275)), (1, (0, x)), (2, (0, j))], [], w) (fun r w' => r = [(0, dg f x j.toNat)] ∧ w = w') := by
  obtain rfl : (fun k => w 347 k) = f := funext hf
  refine (c_410 hT hx hj hm hN).imp (fun r w' h => ⟨?_, h.2⟩)
  rw [h.1]
  unfold dg
  rw [show ((j.toNat : Nat) : Int) = j by omega]
theorem c_411_f {d : Nat} {w : eW} (hT : e_Has mTy w) {j m : Int} {f : Int → Int} (hf : ∀ k, w 347 k = f k) (hj : 0 ≤ j ∧ j ≤ m) (hm : m ≤ 6) (hN : ∀ k, 0 ≤ k → k < m → 1 ≤ f k ∧ f k ≤ 200001) (hP : prd f m.toNat ≤ 1000) : e_Ok 20 elay ecode eI d 411 (0, [(0, (1, 275)), (1, (0, j))], [], w) (fun r w' => r = [(0, prd f j.toNat)] ∧ w = w') := by
  obtain rfl : (fun k => w 347 k) = f := funext hf
  exact c_411 hT hj hm hN hP
theorem prd_bd {f : Int → Int} {m j : Int} (hm : 0 ≤ m) (hj : 0 ≤ j ∧ j ≤ m) (hN : ∀ k, 0 ≤ k → k < m → 1 ≤ f k ∧ f k ≤ 200001) (hP : prd f m.toNat ≤ 1000) : 1 ≤ prd f j.toNat ∧ prd f j.toNat ≤ 1000 := by
  have h1 := prd_pos (f := f) (n := j.toNat) (fun k g1 g2 => (hN k g1 (by omega)).1)
  have h2 := prd_le (f := f) (m := j.toNat) (n := m.toNat) (by omega) (fun k g1 g2 => (hN k g1 (by omega)).1)
  omega
theorem mT_Se {w w' : eW} (f : e_fr mSe w w') (h : e_Has mTy w) : e_Has mTy w' := mT_S (f.mono (fun c k q => by unfold mSe mCl at q; unfold mS; omega)) h
theorem tn_se {c k : Int} (q : mTn1 c k) : mSe c k := Or.inr (Or.inl q)
theorem fn_fe {c k : Int} (h : mFn c k) : mFe c k := h.elim (fun q => Or.inl q) (fun q => Or.inr (by omega))
theorem mT_Tn1 {w w' : eW} (f : e_fr mTn1 w w') (h : e_Has mTy w) : e_Has mTy w' := mT_Se (f.mono (fun _ _ q => tn_se q)) h
theorem mT_Cl {w w' : eW} (f : e_fr mCl w w') (h : e_Has mTy w) : e_Has mTy w' := mT_Se (f.mono (fun _ _ q => cl_se q)) h
theorem mT_Fn {w w' : eW} (f : e_fr mFn w w') (h : e_Has mTy w) : e_Has mTy w' := mT_Se (f.mono (fun _ _ q => fn_se q)) h
theorem mT_Fe {w w' : eW} (f : e_fr mFe w w') (h : e_Has mTy w) : e_Has mTy w' := mT_Se (f.mono (fun _ _ q => fe_se q)) h
theorem ed_up {w wp w' : eW} {k z : Int} (h : ∀ e, wp 352 e = w 352 e) (h0 : w 352 k = 0) (hw : e_up wp 352 k z = w') : edK w w' := fun e q => by
  rw [← hw, e_up_ne _ _ (Or.inr (fun g => by rw [g] at q; exact q h0))]
  exact h e
theorem rm_up {a m n x j : Int} {f : Int → Int} (hF : plF a m f) (hn : n = prd f m.toNat) (hj : 0 ≤ j ∧ j < m) (hx : 0 ≤ x ∧ x < n) (hd : dg f x j.toNat + 1 < f j) : x + prd f j.toNat < n := by
  obtain ⟨-, -, h3, -⟩ := hF
  rw [hn] at hx ⊢
  unfold dg at hd
  exact dv_room (by omega) (fun k g1 g2 => (h3 k g1 (by omega)).1) hx (by rw [show ((j.toNat : Nat) : Int) = j by omega] at hd ⊢; exact hd)
theorem rm_dn {a m x j : Int} {f : Int → Int} (hF : plF a m f) (hj : 0 ≤ j ∧ j < m) (hx : 0 ≤ x) (hd : 0 < dg f x j.toNat) : 0 ≤ x - prd f j.toNat := by
  obtain ⟨-, -, h3, -⟩ := hF
  exact dv_low (fun k g1 g2 => (h3 k g1 (by omega)).1) hx (h3 _ (by omega) (by omega)).1 hd
theorem bfs.q {w : eW} {f : Int → Int} {m n t i : Int} (h : bfs w f m n t) (hn : n ≤ 1000) (hi : 0 ≤ i ∧ i < t) : 0 ≤ w 350 i ∧ w 350 i ≤ 999 := by
  have := (h.2.1 i hi.1 hi.2).1; omega
theorem bfs.d {w : eW} {f : Int → Int} {m n t x : Int} (h : bfs w f m n t) (hn : n ≤ 1000) (hx : 0 ≤ x ∧ x < n) : -1 ≤ w 349 x ∧ w 349 x ≤ 999 := by
  have := h.2.2.2.1 x hx.1 hx.2; have := h.1; omega
end
