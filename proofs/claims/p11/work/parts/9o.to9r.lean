-- part 9o
section
noncomputable section
theorem c_410 {d : Nat} {w : eW} (hT : e_Has mTy w) {x j m : Int} (hx : 0 ≤ x ∧ x ≤ 1000) (hj : 0 ≤ j ∧ j < m) (hm : m ≤ 6) (hN : ∀ k, 0 ≤ k → k < m → 1 ≤ w 347 k ∧ w 347 k ≤ 200001) : e_Ok 20 elay ecode eI d 410 (0, [(0, (1, 275)), (1, (0, x)), (2, (0, j))], [], w) (fun r w' => r = [(0, dv (fun k => w 347 k) x j.toNat % w 347 j)] ∧ w = w') := by
  refine e_Ok.run (t' := (5, [(4, (0, 0)), (3, (0, x)), (0, (1, 275)), (1, (0, x)), (2, (0, j))], [], w)) 4 rfl ?_
  have hL1 : ∀ (nn : Nat) (y3 : Int) (y4 : Int), (0 ≤ y4 ∧ y4 ≤ j) ∧ (0 ≤ y3 ∧ y3 ≤ 1000) ∧ y3 = dv (fun k => w 347 k) x y4.toNat → 7 - y4 < nn → e_Ok 20 elay ecode eI d 410 (5, [(0, (1, 275)), (2, (0, j)), (3, (0, y3)), (4, (0, y4))], [], w) (fun r w' => r = [(0, dv (fun k => w 347 k) x j.toNat % w 347 j)] ∧ w = w') := by
    intro nn
    induction nn with
    | zero => intro y3 y4 hj hm; obtain ⟨j3, j4, j5⟩ := hj; exfalso; omega
    | succ nn ih2 =>
      intro y3 y4 hj hm
      obtain ⟨j3, j4, j5⟩ := hj
      refine e_Ok.run (t' := (8, [(0, (1, 275)), (2, (0, j)), (3, (0, y3)), (4, (0, y4))], [(0, j), (0, y4)], w)) 2 rfl ?_
      refine e_Ok.if2 rfl (fun h6 => ?_) (fun h6 => ?_)
      · replace h6 : (y4 : Int) ≥ j := h6
        refine e_Ok.ps2 (x := (1, 275)) (y := (0, y3)) (q := 29) 2 rfl ?_
        refine e_Ok.getr (z := 347) rfl (el_o rfl) rfl (ef_o rfl) (e_Has.eq hT (mt_o rfl)) ⟨by decide, by decide⟩ ?_
        refine e_Ok.ps1 (x := (0, j)) (q := 33) 1 rfl ?_
        have h7 := (hN j (by omega) (by omega))
        refine e_Ok.ald (z := w 347 j) rfl (el_o rfl) rfl (by omega) rfl (by omega) ?_
        refine e_Ok.remn (fun z8 hz8 => ?_) rfl (by omega) (by omega)
        replace hz8 : z8 = y3 % (w 347 j) := hz8
        refine e_Ok.rets rfl rfl ?_
        exact ⟨by rw [hz8, j5, show y4 = j by omega], rfl⟩
      · replace h6 : (y4 : Int) < j := Int.not_le.mp (show ¬ ((y4 : Int) ≥ j) from h6)
        refine e_Ok.ps2 (x := (1, 275)) (y := (0, y3)) (q := 13) 2 rfl ?_
        refine e_Ok.getr (z := 347) rfl (el_o rfl) rfl (ef_o rfl) (e_Has.eq hT (mt_o rfl)) ⟨by decide, by decide⟩ ?_
        refine e_Ok.ps1 (x := (0, y4)) (q := 18) 1 rfl ?_
        have h9 := (hN y4 (by omega) (by omega))
        refine e_Ok.ald (z := w 347 y4) rfl (el_o rfl) rfl (by omega) rfl (by omega) ?_
        refine e_Ok.divn (fun z10 hz10 => ?_) rfl (by omega) (by omega)
        replace hz10 : z10 = y3 / (w 347 y4) := hz10
        have hzb : 0 ≤ z10 ∧ z10 ≤ y3 := ⟨by rw [hz10]; exact Int.ediv_nonneg (by omega) (by omega), by rw [hz10]; exact Int.ediv_le_self _ (by omega)⟩
        refine e_Ok.run (t' := (21, [(3, (0, z10)), (0, (1, 275)), (2, (0, j)), (4, (0, y4))], [], w)) 1 rfl ?_
        refine e_Ok.inc (z := y4 + 1) rfl rfl (by first | with_reducible rfl | omega) (by omega) ?_
        show e_Ok 20 elay ecode eI d 410 (24, [(4, (0, y4 + 1)), (3, (0, z10)), (0, (1, 275)), (2, (0, j))], [], w) _
        refine e_Ok.ps0 (q := 5) 1 rfl ?_
        refine e_Ok.sub eAlk (e_sub_of rfl ?_) (ih2 z10 (y4 + 1) ⟨by omega, by omega, (by rw [show (y4 + 1).toNat = y4.toNat + 1 by omega]; show z10 = dv (fun k => w 347 k) x y4.toNat / w 347 (y4.toNat : Int); rw [← j5, show ((y4.toNat : Nat) : Int) = y4 by omega]; exact hz10)⟩ (by omega))
        exact ⟨rfl, rfl, rfl, rfl, trivial⟩
  refine e_Ok.sub eAlk (e_sub_of rfl ?_) (hL1 (7 + 1 : Int).toNat x 0 ⟨by omega, by omega, rfl⟩ (by omega))
  exact ⟨rfl, rfl, rfl, rfl, trivial⟩
theorem c_411 {d : Nat} {w : eW} (hT : e_Has mTy w) {j m : Int} (hj : 0 ≤ j ∧ j ≤ m) (hm : m ≤ 6) (hN : ∀ k, 0 ≤ k → k < m → 1 ≤ w 347 k ∧ w 347 k ≤ 200001) (hP : prd (fun k => w 347 k) m.toNat ≤ 1000) : e_Ok 20 elay ecode eI d 411 (0, [(0, (1, 275)), (1, (0, j))], [], w) (fun r w' => r = [(0, prd (fun k => w 347 k) j.toNat)] ∧ w = w') := by
  refine e_Ok.run (t' := (4, [(3, (0, 0)), (2, (0, 1)), (0, (1, 275)), (1, (0, j))], [], w)) 4 rfl ?_
  have hL1 : ∀ (nn : Nat) (y2 : Int) (y3 : Int), (0 ≤ y3 ∧ y3 ≤ j ∧ 1 ≤ y2 ∧ y2 ≤ 1000) ∧ y2 = prd (fun k => w 347 k) y3.toNat → 7 - y3 < nn → e_Ok 20 elay ecode eI d 411 (4, [(0, (1, 275)), (1, (0, j)), (2, (0, y2)), (3, (0, y3))], [], w) (fun r w' => r = [(0, prd (fun k => w 347 k) j.toNat)] ∧ w = w') := by
    intro nn
    induction nn with
    | zero => intro y2 y3 hj hm; obtain ⟨j3, j4⟩ := hj; exfalso; omega
    | succ nn ih2 =>
      intro y2 y3 hj hm
      obtain ⟨j3, j4⟩ := hj
      refine e_Ok.run (t' := (6, [(0, (1, 275)), (1, (0, j)), (2, (0, y2)), (3, (0, y3))], [(0, j), (0, y3)], w)) 2 rfl ?_
      refine e_Ok.if2 rfl (fun h5 => ?_) (fun h5 => ?_)
      · replace h5 : (y3 : Int) ≥ j := h5
        refine e_Ok.ps1 (x := (0, y2)) (q := 25) 1 rfl ?_
        refine e_Ok.rets rfl rfl ?_
        exact ⟨by rw [j4, show y3 = j by omega], rfl⟩
      · replace h5 : (y3 : Int) < j := Int.not_le.mp (show ¬ ((y3 : Int) ≥ j) from h5)
        refine e_Ok.ps2 (x := (1, 275)) (y := (0, y2)) (q := 11) 2 rfl ?_
        refine e_Ok.getr (z := 347) rfl (el_o rfl) rfl (ef_o rfl) (e_Has.eq hT (mt_o rfl)) ⟨by decide, by decide⟩ ?_
        refine e_Ok.ps1 (x := (0, y3)) (q := 15) 1 rfl ?_
        have h6 := (hN y3 (by omega) (by omega))
        refine e_Ok.ald (z := w 347 y3) rfl (el_o rfl) rfl (by omega) rfl (by omega) ?_
        have hp1 : prd (fun k => w 347 k) (y3 + 1).toNat = y2 * w 347 y3 := by rw [show (y3 + 1).toNat = y3.toNat + 1 by omega]; show prd (fun k => w 347 k) y3.toNat * w 347 (y3.toNat : Int) = _; rw [← j4, show ((y3.toNat : Nat) : Int) = y3 by omega]
        have hpl := prd_le (f := (fun k => w 347 k)) (m := (y3 + 1).toNat) (n := m.toNat) (by omega) (fun k g1 g2 => (hN k g1 (by omega)).1)
        have hpp := prd_pos (f := (fun k => w 347 k)) (n := (y3 + 1).toNat) (fun k g1 g2 => (hN k g1 (by omega)).1)
        have hpb : 1 ≤ y2 * (w 347 y3) ∧ y2 * (w 347 y3) ≤ 1000 := by rw [← hp1]; omega
        refine e_Ok.mul (z := y2 * (w 347 y3)) rfl (by omega) (by omega) ?_
        refine e_Ok.run (t' := (18, [(2, (0, y2 * (w 347 y3))), (0, (1, 275)), (1, (0, j)), (3, (0, y3))], [], w)) 1 rfl ?_
        refine e_Ok.inc (z := y3 + 1) rfl rfl (by first | with_reducible rfl | omega) (by omega) ?_
        show e_Ok 20 elay ecode eI d 411 (21, [(3, (0, y3 + 1)), (2, (0, y2 * (w 347 y3))), (0, (1, 275)), (1, (0, j))], [], w) _
        refine e_Ok.ps0 (q := 4) 1 rfl ?_
        refine e_Ok.sub eAlk (e_sub_of rfl ?_) (ih2 (y2 * (w 347 y3)) (y3 + 1) ⟨by omega, hp1.symm⟩ (by omega))
        exact ⟨rfl, rfl, rfl, rfl, trivial⟩
  refine e_Ok.sub eAlk (e_sub_of rfl ?_) (hL1 (7 + 1 : Int).toNat 1 0 ⟨by omega, rfl⟩ (by omega))
  exact ⟨rfl, rfl, rfl, rfl, trivial⟩
end
end
-- part 9p
section
noncomputable section
/-- the digit j of x -/
def dg (f : Int → Int) (x : Int) (j : Nat) : Int := dv f x j % f j
theorem prd_mul {f : Int → Int} {j : Nat} : ∀ {n : Nat}, j ≤ n → ∃ c, prd f n = prd f j * c
  | 0, h => ⟨1, by rw [show j = 0 by omega, Int.mul_one]⟩
  | n + 1, h => by
    rcases Nat.lt_or_ge j (n + 1) with g | g
    · obtain ⟨c, hc⟩ := prd_mul (f := f) (n := n) (by omega : j ≤ n)
      exact ⟨c * f n, by show prd f n * f n = _; rw [hc, Int.mul_assoc]⟩
    · exact ⟨1, by rw [show n + 1 = j by omega, Int.mul_one]⟩
theorem dg_in {f : Int → Int} {x : Int} {j : Nat} (h : 1 ≤ f j) : 0 ≤ dg f x j ∧ dg f x j < f j := ⟨Int.emod_nonneg _ (by omega), Int.emod_lt_of_pos _ (by omega)⟩
/-- one more in the digit j: so it is, and the others stay -/
theorem dg_up {f : Int → Int} {x : Int} {n j i : Nat} (hj : j < n) (hi : i < n) (h : ∀ k : Int, 0 ≤ k → k < n → 1 ≤ f k) (hd : dg f x j + 1 < f j) : dg f (x + prd f j) i = if i = j then dg f x j + 1 else dg f x i := by
  have hpj : ∀ m : Nat, m ≤ n → ∀ k : Int, 0 ≤ k → k < m → 1 ≤ f k := fun m hm k g1 g2 => h k g1 (by omega)
  have hfj := h j (by omega) (by omega)
  have hfi := h i (by omega) (by omega)
  have up := dv_up (f := f) (x := x) (j := j) (hpj j (by omega))
  have b1 := dg_in (x := x) hfj
  rcases Nat.lt_trichotomy i j with g | g | g
  · rw [if_neg (by omega)]
    unfold dg
    rw [dv_eq (hpj i (by omega)), dv_eq (hpj i (by omega))]
    obtain ⟨c, hc⟩ := prd_mul (f := f) (j := i + 1) (n := j) g
    have h0 := prd_pos (hpj i (by omega))
    rw [hc, show prd f (i + 1) = prd f i * f i from rfl, Int.mul_assoc, Int.add_mul_ediv_left _ _ (by omega), Int.add_mul_emod_self_left]
  · rw [if_pos g, g]
    unfold dg
    rw [up]
    unfold dg at hd b1
    have e := Int.mul_ediv_add_emod (dv f x j) (f j)
    rw [show dv f x j + 1 = (dv f x j % f j + 1) + f j * (dv f x j / f j) by omega, Int.add_mul_emod_self_left, Int.emod_eq_of_lt (by omega) hd]
  · rw [if_neg (by omega)]
    have hk : ∀ m : Nat, j + 1 ≤ m → dv f (x + prd f j) m = dv f x m := by
      intro m
      induction m with
      | zero => intro g; omega
      | succ m ih =>
        intro g2
        show dv f (x + prd f j) m / f m = dv f x m / f m
        rcases Nat.lt_or_ge j m with q | q
        · rw [ih (by omega)]
        · rw [show m = j by omega, up]
          unfold dg at hd b1
          have e := Int.mul_ediv_add_emod (dv f x j) (f j)
          rw [show dv f x j + 1 = (dv f x j % f j + 1) + f j * (dv f x j / f j) by omega, Int.add_mul_ediv_left _ _ (by omega), Int.ediv_eq_zero_of_lt (by omega) hd, Int.zero_add]
    unfold dg
    rw [hk i g]
/-- the node with the digits d -/
def smd (f d : Int → Int) : Nat → Int
  | 0 => 0
  | n + 1 => smd f d n + prd f n * d n
theorem smd_in {f d : Int → Int} : ∀ {n : Nat}, (∀ k : Int, 0 ≤ k → k < n → 0 ≤ d k ∧ d k < f k) → 0 ≤ smd f d n ∧ smd f d n < prd f n
  | 0, _ => by show (0 : Int) ≤ 0 ∧ (0 : Int) < 1; omega
  | n + 1, h => by
    have h1 := smd_in (n := n) (fun k g1 g2 => h k g1 (by omega))
    have h2 := h n (by omega) (by omega)
    show 0 ≤ smd f d n + prd f n * d n ∧ smd f d n + prd f n * d n < prd f n * f n
    have h3 : 0 ≤ prd f n * d n := Int.mul_nonneg (by omega) h2.1
    have h4 : prd f n * (d n + 1) ≤ prd f n * f n := Int.mul_le_mul_of_nonneg_left (by omega) (by omega)
    rw [Int.mul_add, Int.mul_one] at h4
    omega
theorem smd_dg {f d : Int → Int} {j : Nat} : ∀ {n : Nat}, j < n → (∀ k : Int, 0 ≤ k → k < n → 0 ≤ d k ∧ d k < f k) → dg f (smd f d n) j = d j
  | 0, h, _ => by omega
  | n + 1, hj, h => by
    have hp : ∀ m : Nat, m ≤ n + 1 → ∀ k : Int, 0 ≤ k → k < m → 1 ≤ f k := fun m hm k g1 g2 => by have := h k g1 (by omega); omega
    have h0 := prd_pos (hp j (by omega))
    have hs := smd_in (f := f) (d := d) (n := j) (fun k g1 g2 => h k g1 (by omega))
    have hd := h j (by omega) (by omega)
    rcases Nat.lt_or_ge j n with g | g
    · have ih := smd_dg (n := n) g (fun k g1 g2 => h k g1 (by omega))
      unfold dg at ih ⊢
      rw [dv_eq (hp j (by omega))] at ih ⊢
      show (smd f d n + prd f n * d n) / prd f j % f j = d j
      obtain ⟨c, hc⟩ := prd_mul (f := f) (j := j + 1) (n := n) g
      rw [hc, show prd f (j + 1) = prd f j * f j from rfl, Int.mul_assoc (prd f j), Int.mul_assoc (prd f j), Int.add_mul_ediv_left _ _ (by omega), Int.mul_assoc, Int.add_mul_emod_self_left]
      exact ih
    · rw [show n = j by omega]
      unfold dg
      rw [dv_eq (hp j (by omega))]
      show (smd f d j + prd f j * d j) / prd f j % f j = d j
      rw [Int.add_mul_ediv_left _ _ (by omega), Int.ediv_eq_zero_of_lt hs.1 hs.2, Int.zero_add, Int.emod_eq_of_lt hd.1 hd.2]
/-- from x by the step s to y -/
def lnx (f : Int → Int) (x y s : Int) : Prop := (s % 2 = 0 ∧ y = x + prd f (s / 2).toNat ∧ dg f x (s / 2).toNat + 1 < f (s / 2)) ∨ (s % 2 = 1 ∧ y = x - prd f (s / 2).toNat ∧ 0 < dg f x (s / 2).toNat)
/-- and the edge is free -/
def lnk (w : eW) (f : Int → Int) (x y s : Int) : Prop := lnx f x y s ∧ w 352 (6 * (if s % 2 = 0 then x else y) + s / 2) = 1
theorem lnx.in {f : Int → Int} {x y s : Int} {n : Nat} (h : lnx f x y s) (hs : 0 ≤ s ∧ s < 2 * n) (hf : ∀ k : Int, 0 ≤ k → k < n → 1 ≤ f k) (hx : 0 ≤ x ∧ x < prd f n) : 0 ≤ y ∧ y < prd f n := by
  have e : (((s / 2).toNat : Nat) : Int) = s / 2 := by omega
  have hp := prd_pos (f := f) (n := (s / 2).toNat) (fun k g1 g2 => hf k g1 (by omega))
  rcases h with ⟨h1, rfl, h3⟩ | ⟨h1, rfl, h3⟩
  · rw [← e] at h3
    have := dv_room (f := f) (x := x) (j := (s / 2).toNat) (n := n) (by omega) hf hx h3
    omega
  · have := dv_low (f := f) (x := x) (j := (s / 2).toNat) (fun k g1 g2 => hf k g1 (by omega)) hx.1 (hf _ (by omega) (by omega)) h3
    omega
def flp (s : Int) : Int := if s % 2 = 0 then s + 1 else s - 1
theorem lnx.back {f : Int → Int} {x y s : Int} {n : Nat} (h : lnx f x y s) (hs : 0 ≤ s ∧ s < 2 * n) (hf : ∀ k : Int, 0 ≤ k → k < n → 1 ≤ f k) : lnx f y x (flp s) := by
  have e : (((s / 2).toNat : Nat) : Int) = s / 2 := by omega
  have hfj := hf (s / 2) (by omega) (by omega)
  unfold flp
  rcases h with ⟨h1, rfl, h3⟩ | ⟨h1, rfl, h3⟩
  · rw [if_pos h1]
    refine Or.inr ⟨by omega, ?_, ?_⟩
    · rw [show (s + 1) / 2 = s / 2 by omega]; omega
    · rw [show (s + 1) / 2 = s / 2 by omega, dg_up (n := n) (j := (s / 2).toNat) (by omega) (by omega) hf (by rw [e]; exact h3), if_pos rfl]
      have := dg_in (f := f) (x := x) (j := (s / 2).toNat) (by rw [e]; exact hfj)
      omega
  · rw [if_neg (by omega)]
    refine Or.inl ⟨by omega, ?_, ?_⟩
    · rw [show (s - 1) / 2 = s / 2 by omega]; omega
    · rw [show (s - 1) / 2 = s / 2 by omega]
      have hi := dg_in (f := f) (x := x) (j := (s / 2).toNat) (by rw [e]; exact hfj)
      have hp : ∀ k : Int, 0 ≤ k → k < ((s / 2).toNat : Nat) → 1 ≤ f k := fun k g1 g2 => hf k g1 (by omega)
      -- the digit of x - prd is one less
      have up := dv_up (f := f) (x := x - prd f (s / 2).toNat) (j := (s / 2).toNat) hp
      rw [Int.sub_add_cancel] at up
      unfold dg at h3 hi ⊢
      rw [e] at h3 hi ⊢
      have q1 := Int.mul_ediv_add_emod (dv f x (s / 2).toNat) (f (s / 2))
      rw [show dv f (x - prd f (s / 2).toNat) (s / 2).toNat = (dv f x (s / 2).toNat % f (s / 2) - 1) + f (s / 2) * (dv f x (s / 2).toNat / f (s / 2)) by omega, Int.add_mul_emod_self_left, Int.emod_eq_of_lt (by omega) (by omega)]
      omega
theorem lnk.back {w : eW} {f : Int → Int} {x y s : Int} {n : Nat} (h : lnk w f x y s) (hs : 0 ≤ s ∧ s < 2 * n) (hf : ∀ k : Int, 0 ≤ k → k < n → 1 ≤ f k) : lnk w f y x (flp s) := by
  refine ⟨h.1.back hs hf, ?_⟩
  have h2 := h.2
  unfold flp
  by_cases e : s % 2 = 0
  · rw [if_pos e] at h2
    rw [if_pos e, if_neg (by omega), show (s + 1) / 2 = s / 2 by omega]
    exact h2
  · rw [if_neg e] at h2
    rw [if_neg e, if_pos (by omega), show (s - 1) / 2 = s / 2 by omega]
    exact h2
theorem flp_in {s n : Int} (hs : 0 ≤ s ∧ s < 2 * n) : 0 ≤ flp s ∧ flp s < 2 * n := by unfold flp; split <;> omega
/-- what a step makes of the digits -/
theorem lnx.dg {f : Int → Int} {x y s : Int} {n i : Nat} (h : lnx f x y s) (hs : 0 ≤ s ∧ s < 2 * n) (hi : i < n) (hf : ∀ k : Int, 0 ≤ k → k < n → 1 ≤ f k) : (s = 2 * i → dg f y i = dg f x i + 1) ∧ (s = 2 * i + 1 → dg f y i = dg f x i - 1) ∧ (s ≠ 2 * i → s ≠ 2 * i + 1 → dg f y i = dg f x i) := by
  have e : (((s / 2).toNat : Nat) : Int) = s / 2 := by omega
  have hb := h.back hs hf
  rcases h with ⟨h1, rfl, h3⟩ | ⟨h1, h2, h3⟩
  · rw [dg_up (n := n) (j := (s / 2).toNat) (by omega) hi hf (by rw [e]; exact h3)]
    refine ⟨fun g => ?_, fun g => by omega, fun g1 g2 => ?_⟩
    · rw [if_pos (by omega), show (s / 2).toNat = i by omega]
    · rw [if_neg (by omega)]
  · unfold flp at hb
    rw [if_neg (by omega)] at hb
    rcases hb with ⟨b1, b2, b3⟩ | ⟨b1, -, -⟩
    · rw [show (s - 1) / 2 = s / 2 by omega] at b2 b3
      have u := dg_up (f := f) (x := y) (n := n) (j := (s / 2).toNat) (i := i) (by omega) hi hf (by rw [e]; exact b3)
      rw [← b2] at u
      refine ⟨fun g => by omega, fun g => ?_, fun g1 g2 => ?_⟩
      · rw [if_pos (by omega), show (s / 2).toNat = i by omega] at u; omega
      · rw [if_neg (by omega)] at u; omega
    · omega
/-! the planner: its plan, its search -/
def plF (a m : Int) (f : Int → Int) : Prop := (0 ≤ a ∧ a ≤ 3) ∧ (0 ≤ m ∧ m ≤ 6) ∧ (∀ k, 0 ≤ k → k < m → 1 ≤ f k ∧ f k ≤ 200001) ∧ prd f m.toNat ≤ 1000
def plC (w : eW) (a m : Int) (f : Int → Int) : Prop := w 275 110 = a ∧ w 286 a = m ∧ (∀ k, w 347 k = f k) ∧ (1 ≤ w 275 111 ∧ w 275 111 ≤ 16) ∧ (-2147483648 ≤ w 275 112 ∧ w 275 112 ≤ 2147483647) ∧ (∀ k, 0 ≤ k → k < m → -2147483648 ≤ w 348 k ∧ w 348 k ≤ 2147483647) ∧ (∀ b, 0 ≤ b → b < w 275 10 → w 286 b ≤ 6 ∧ e_pk2 w (7 * b) (w 286 b))
def mCl (c k : Int) : Prop := ((c = 321 ∨ c = 322) ∧ 28 ≤ k ∧ k ≤ 34) ∨ (c = 275 ∧ 58 ≤ k ∧ k ≤ 60) ∨ c = 324 ∨ c = 325
def mTn1 (c _k : Int) : Prop := c = 323
def mFn (c k : Int) : Prop := mCl c k ∨ c = 323 ∨ c = 351
def mFe (c k : Int) : Prop := mCl c k ∨ c = 323 ∨ c = 351 ∨ c = 352
def mSe (c k : Int) : Prop := mCl c k ∨ c = 323 ∨ (349 ≤ c ∧ c ≤ 353)
theorem no_9p_0 : ¬ mSe 275 110 := by unfold mSe mCl; omega
theorem no_9p_1 {k : Int} : ¬ mSe 286 k := by unfold mSe mCl; omega
theorem no_9p_2 {k : Int} : ¬ mSe 347 k := by unfold mSe mCl; omega
theorem no_9p_3 : ¬ mSe 275 111 := by unfold mSe mCl; omega
theorem no_9p_4 : ¬ mSe 275 112 := by unfold mSe mCl; omega
theorem no_9p_5 {k : Int} : ¬ mSe 348 k := by unfold mSe mCl; omega
theorem plC.fr {w w' : eW} {a m : Int} {f : Int → Int} (h : plC w a m f) (hA : w 275 10 ≤ 4) (hF : e_fr mSe w w') : plC w' a m f := by
  obtain ⟨h1, h2, h3, h4, h5, h6, h7⟩ := h
  have e : ∀ c k, ¬ mSe c k → w' c k = w c k := hF
  have eA : w' 275 10 = w 275 10 := e _ _ (by unfold mSe mCl; omega)
  refine ⟨by rw [e 275 110 no_9p_0]; exact h1, by rw [e 286 _ no_9p_1]; exact h2, fun k => by rw [e 347 k no_9p_2]; exact h3 k, by rw [e 275 111 no_9p_3]; exact h4, by rw [e 275 112 no_9p_4]; exact h5, fun k g1 g2 => by rw [e 348 k no_9p_5]; exact h6 k g1 g2, fun b g1 g2 => ?_⟩
  rw [e 286 b no_9p_1]
  obtain ⟨q1, q2⟩ := h7 b g1 (by omega)
  exact ⟨q1, q2.fr hF (fun k g3 g4 => ⟨by unfold mSe mCl; omega, by unfold mSe mCl; omega⟩)⟩
theorem fe_se {c k : Int} (h : mFe c k) : mSe c k := h.elim (fun q => Or.inl q) (fun q => Or.inr (by omega))
theorem fn_se {c k : Int} (h : mFn c k) : mSe c k := h.elim (fun q => Or.inl q) (fun q => Or.inr (by omega))
theorem cl_se {c k : Int} (h : mCl c k) : mSe c k := Or.inl h
/-- edges that are known stay -/
def edK (w w' : eW) : Prop := ∀ e, w 352 e ≠ 0 → w' 352 e = w 352 e
theorem edK.trans {w w' v : eW} (h : edK w w') (g : edK w' v) : edK w v := fun e q => by
  have := h e q
  rw [g e (by omega), this]
theorem edK.same {w w' : eW} (h : ∀ e, w' 352 e = w 352 e) : edK w w' := fun e _ => h e
theorem lnk.ed {w w' : eW} {f : Int → Int} {x y s : Int} (h : lnk w f x y s) (g : edK w w') : lnk w' f x y s := ⟨h.1, by rw [g _ (by rw [h.2]; decide)]; exact h.2⟩
theorem bs_up_no1 {w : eW} {f : Int → Int} {x s : Int} (hs : s % 2 = 0) (h : f (s / 2) ≤ dg f x (s / 2).toNat + 1) : ∀ y, ¬ lnk w f x y s := fun y q => by
  rcases q.1 with ⟨-, -, q3⟩ | ⟨q1, -, -⟩ <;> omega
theorem bs_up_no2 {w w' : eW} {f : Int → Int} {x s j : Int} (hs : s % 2 = 0) (hj : j = s / 2) (hm : edK w w') (h : w' 352 (6 * x + j) ≠ 1) : ∀ y, ¬ lnk w f x y s := fun y q => by
  have := (q.ed hm).2
  rw [if_pos hs, ← hj] at this
  exact h this
theorem bs_up_yes {w w' : eW} {f : Int → Int} {x s j p : Int} (hs : s % 2 = 0) (hj : j = s / 2) (hp : p = prd f j.toNat) (hd : dg f x j.toNat + 1 < f j) (h : w' 352 (6 * x + j) = 1) : lnk w' f x (x + p) s ∧ ∀ y, lnk w f x y s → y = x + p := by
  subst hj hp
  refine ⟨⟨Or.inl ⟨hs, rfl, hd⟩, by rw [if_pos hs]; exact h⟩, fun y q => ?_⟩
  rcases q.1 with ⟨-, q2, -⟩ | ⟨q1, -, -⟩
  · exact q2
  · omega
theorem bs_dn_no1 {w : eW} {f : Int → Int} {x s : Int} (hs : s % 2 ≠ 0) (h : dg f x (s / 2).toNat ≤ 0) : ∀ y, ¬ lnk w f x y s := fun y q => by
  rcases q.1 with ⟨q1, -, -⟩ | ⟨-, -, q3⟩ <;> omega
theorem bs_dn_no2 {w w' : eW} {f : Int → Int} {x s j p : Int} (hs : s % 2 ≠ 0) (hj : j = s / 2) (hp : p = prd f j.toNat) (hm : edK w w') (h : w' 352 (6 * (x - p) + j) ≠ 1) : ∀ y, ¬ lnk w f x y s := fun y q => by
  subst hj hp
  have := (q.ed hm).2
  rw [if_neg hs] at this
  rcases q.1 with ⟨q1, -, -⟩ | ⟨-, q2, -⟩
  · omega
  · rw [q2] at this; exact h this
theorem bs_dn_yes {w w' : eW} {f : Int → Int} {x s j p : Int} (hs : s % 2 = 1) (hj : j = s / 2) (hp : p = prd f j.toNat) (hd : 0 < dg f x j.toNat) (h : w' 352 (6 * (x - p) + j) = 1) : lnk w' f x (x - p) s ∧ ∀ y, lnk w f x y s → y = x - p := by
  subst hj hp
  refine ⟨⟨Or.inr ⟨hs, rfl, hd⟩, by rw [if_neg (by omega)]; exact h⟩, fun y q => ?_⟩
  rcases q.1 with ⟨q1, -, -⟩ | ⟨-, q2, -⟩
  · omega
  · exact q2
/-- the search: t nodes are in the queue -/
def bfs (w : eW) (f : Int → Int) (m n t : Int) : Prop := (1 ≤ t ∧ t ≤ n) ∧ (∀ i, 0 ≤ i → i < t → (0 ≤ w 350 i ∧ w 350 i < n) ∧ 0 ≤ w 349 (w 350 i)) ∧ (∀ i j, 0 ≤ i → i < j → j < t → w 350 i ≠ w 350 j) ∧ (∀ x, 0 ≤ x → x < n → -1 ≤ w 349 x ∧ w 349 x < t) ∧ (∀ x, 0 ≤ x → x < n → 1 ≤ w 349 x → ∃ y s, (0 ≤ y ∧ y < n) ∧ (0 ≤ s ∧ s < 2 * m) ∧ lnk w f x y s ∧ w 349 y = w 349 x - 1)
theorem bfs.next {w w' : eW} {f : Int → Int} {m n t : Int} (h : bfs w f m n t) (hF : ∀ c k, c = 349 ∨ c = 350 → w' c k = w c k) (hE : edK w w') : bfs w' f m n t := by
  obtain ⟨h1, h2, h3, h4, h5⟩ := h
  have a : ∀ k, w' 349 k = w 349 k := fun k => hF _ _ (by omega)
  have b : ∀ k, w' 350 k = w 350 k := fun k => hF _ _ (by omega)
  refine ⟨h1, fun i g1 g2 => by rw [b, a]; exact h2 i g1 g2, fun i j g1 g2 g3 => by rw [b, b]; exact h3 i j g1 g2 g3, fun x g1 g2 => by rw [a]; exact h4 x g1 g2, fun x g1 g2 g3 => ?_⟩
  rw [a] at g3
  obtain ⟨y, s, q1, q2, q3, q4⟩ := h5 x g1 g2 g3
  exact ⟨y, s, q1, q2, q3.ed hE, by rw [a, a]; exact q4⟩
theorem bfs.room {w : eW} {f : Int → Int} {m n t b : Int} (h : bfs w f m n t) (hb : 0 ≤ b ∧ b < n) (hn : w 349 b < 0) : t + 1 ≤ n := by
  obtain ⟨h1, h2, h3, -, -⟩ := h
  have := pig n.toNat (t + 1).toNat (fun i => if i ≤ t then w 350 (i - 1) else b) (fun i g1 g2 => by
    show 0 ≤ (if i ≤ t then w 350 (i - 1) else b) ∧ (if i ≤ t then w 350 (i - 1) else b) < _
    split
    · have := (h2 (i - 1) (by omega) (by omega)).1; omega
    · omega) (fun i j g1 g2 g3 => by
    show (if i ≤ t then w 350 (i - 1) else b) ≠ (if j ≤ t then w 350 (j - 1) else b)
    rw [if_pos (by omega)]
    split
    · exact h3 (i - 1) (j - 1) (by omega) (by omega) (by omega)
    · intro e
      have := (h2 (i - 1) (by omega) (by omega)).2
      rw [e] at this
      omega)
  omega
theorem bfs.add {w w1 w' : eW} {f : Int → Int} {m n t k b s : Int} (h : bfs w f m n t) (hm : 0 ≤ m) (hf : ∀ k : Int, 0 ≤ k → k < m → 1 ≤ f k) (hk : 0 ≤ k ∧ k < t) (hb : 0 ≤ b ∧ b < n) (hn : w 349 b < 0) (hs : 0 ≤ s ∧ s < 2 * m) (hl : lnk w f (w 350 k) b s) (h1 : e_up w 349 b (w 349 (w 350 k) + 1) = w1) (h2 : e_up w1 350 t b = w') : bfs w' f m n (t + 1) := by
  have hr := h.room hb hn
  obtain ⟨a1, a2, a3, a4, a5⟩ := h
  have q0 := a2 k hk.1 hk.2
  have q1 := a4 _ q0.1.1 q0.1.2
  have e9 : ∀ x, x ≠ b → w' 349 x = w 349 x := fun x q => by rw [← h2, ← h1]; exact (e_up_ne _ _ (Or.inl (by decide))).trans (e_up_ne _ _ (Or.inr q))
  have e9b : w' 349 b = w 349 (w 350 k) + 1 := by rw [← h2, ← h1]; exact (e_up_ne _ _ (Or.inl (by decide))).trans (e_up_eq _ _ _ _)
  have e0 : ∀ x, x ≠ t → w' 350 x = w 350 x := fun x q => by rw [← h2, ← h1]; exact (e_up_ne _ _ (Or.inr q)).trans (e_up_ne _ _ (Or.inl (by decide)))
  have e0t : w' 350 t = b := by rw [← h2]; exact e_up_eq _ _ _ _
  have ed : edK w w' := edK.same (fun e => by rw [← h2, ← h1]; exact (e_up_ne _ _ (Or.inl (by decide))).trans (e_up_ne _ _ (Or.inl (by decide))))
  refine ⟨by omega, fun i g1 g2 => ?_, fun i j g1 g2 g3 => ?_, fun x g1 g2 => ?_, fun x g1 g2 g3 => ?_⟩
  · by_cases e : i = t
    · rw [e, e0t]; exact ⟨hb, by rw [e9b]; omega⟩
    · rw [e0 i e]
      have := a2 i g1 (by omega)
      exact ⟨this.1, by rw [e9 _ (fun q => by rw [q] at this; omega)]; exact this.2⟩
  · rw [e0 i (by omega)]
    by_cases e : j = t
    · rw [e, e0t]
      intro q
      have := (a2 i g1 (by omega)).2
      rw [q] at this
      omega
    · rw [e0 j e]; exact a3 i j g1 g2 (by omega)
  · by_cases e : x = b
    · rw [e, e9b]; omega
    · rw [e9 x e]; have := a4 x g1 g2; omega
  · by_cases e : x = b
    · refine ⟨w 350 k, flp s, q0.1, flp_in hs, ?_, ?_⟩
      · rw [e]; exact (lnk.back (n := m.toNat) hl (by omega) (fun k g1 g2 => hf k g1 (by omega))).ed ed
      · rw [e, e9b, e9 _ (fun q => by rw [q] at q0; omega)]; omega
    · rw [e9 x e] at g3
      obtain ⟨y, s', p1, p2, p3, p4⟩ := a5 x g1 g2 g3
      exact ⟨y, s', p1, p2, p3.ed ed, by rw [e9 x e, e9 y (fun q => by rw [q] at p4; omega)]; exact p4⟩
theorem bfs.start {w w1 w' : eW} {f : Int → Int} {m n b : Int} (hb : 0 ≤ b ∧ b < n) (h0 : ∀ x, 0 ≤ x → x < n → w 349 x = -1) (h1 : e_up w 349 b 0 = w1) (h2 : e_up w1 350 0 b = w') : bfs w' f m n 1 := by
  have e9 : ∀ x, x ≠ b → w' 349 x = w 349 x := fun x q => by rw [← h2, ← h1]; exact (e_up_ne _ _ (Or.inl (by decide))).trans (e_up_ne _ _ (Or.inr q))
  have e9b : w' 349 b = 0 := by rw [← h2, ← h1]; exact (e_up_ne _ _ (Or.inl (by decide))).trans (e_up_eq _ _ _ _)
  have e0t : w' 350 0 = b := by rw [← h2]; exact e_up_eq _ _ _ _
  refine ⟨by omega, fun i g1 g2 => ?_, fun i j g1 g2 g3 => by omega, fun x g1 g2 => ?_, fun x g1 g2 g3 => ?_⟩
  · rw [show i = 0 by omega, e0t, e9b]; exact ⟨hb, by decide⟩
  · by_cases e : x = b
    · rw [e, e9b]; omega
    · rw [e9 x e, h0 x g1 g2]; omega
  · exfalso
    by_cases e : x = b
    · rw [e, e9b] at g3; omega
    · rw [e9 x e, h0 x g1 g2] at g3; omega
/-- k steps of the way are found, they lead from x to y -/
def wlk (w : eW) (f : Int → Int) (m n x k y : Int) : Prop := ∃ N : Int → Int, N 0 = x ∧ N k = y ∧ ∀ i, 0 ≤ i → i < k → (0 ≤ w 353 i ∧ w 353 i < 2 * m) ∧ lnx f (N i) (N (i + 1)) (w 353 i) ∧ 0 ≤ N (i + 1) ∧ N (i + 1) < n
theorem wlk.zero (w : eW) (f : Int → Int) (m n x : Int) : wlk w f m n x 0 x := ⟨fun _ => x, rfl, rfl, fun i g1 g2 => by omega⟩
theorem wlk.next {w w' : eW} {f : Int → Int} {m n x k y : Int} (h : wlk w f m n x k y) (hF : ∀ i, w' 353 i = w 353 i) : wlk w' f m n x k y := by
  obtain ⟨N, h1, h2, h3⟩ := h
  exact ⟨N, h1, h2, fun i g1 g2 => by rw [hF]; exact h3 i g1 g2⟩
theorem wlk.add {w w' : eW} {f : Int → Int} {m n x k y z s : Int} (h : wlk w f m n x k y) (hk : 0 ≤ k) (hs : 0 ≤ s ∧ s < 2 * m) (hl : lnx f y z s) (hz : 0 ≤ z ∧ z < n) (hw : e_up w 353 k s = w') : wlk w' f m n x (k + 1) z := by
  obtain ⟨N, h1, h2, h3⟩ := h
  refine ⟨fun i => if i ≤ k then N i else z, by show (if (0 : Int) ≤ k then _ else _) = _; rw [if_pos hk]; exact h1, by show (if k + 1 ≤ k then _ else _) = _; rw [if_neg (by omega)], fun i g1 g2 => ?_⟩
  show _ ∧ lnx f (if i ≤ k then N i else z) (if i + 1 ≤ k then N (i + 1) else z) _ ∧ 0 ≤ (if i + 1 ≤ k then N (i + 1) else z) ∧ (if i + 1 ≤ k then N (i + 1) else z) < n
  rw [if_pos (by omega)]
  by_cases e : i = k
  · rw [e, if_neg (by omega), ← hw, e_up_eq, h2]
    exact ⟨hs, hl, hz⟩
  · rw [if_pos (by omega), ← hw, e_up_ne _ _ (Or.inr e)]
    exact h3 i g1 (by omega)
/-- the step that leads nearer is still to come -/
def nrr (w : eW) (f : Int → Int) (m n x s b : Int) : Prop := ∃ y u, (0 ≤ y ∧ y < n) ∧ (s ≤ u ∧ u < 2 * m) ∧ lnk w f x y u ∧ w 349 y = w 349 x - 1 ∧ (s = u → b = y)
theorem nrr.of {w w' : eW} {f : Int → Int} {m n t x b : Int} (h : bfs w f m n t) (hx : 0 ≤ x ∧ x < n) (h1 : 1 ≤ w 349 x) (hF : ∀ k, w' 349 k = w 349 k) (hE : edK w w') (hb : ∀ y, lnk w f x y 0 → y = b) : nrr w' f m n x 0 b := by
  obtain ⟨y, u, q1, q2, q3, q4⟩ := h.2.2.2.2 x hx.1 hx.2 h1
  exact ⟨y, u, q1, q2, q3.ed hE, by rw [hF, hF]; exact q4, fun e => by rw [← e] at q3; exact (hb y q3).symm⟩
theorem nrr.more {w w' : eW} {f : Int → Int} {m n x s b b' : Int} (h : nrr w f m n x s b) (hb : ¬ (0 ≤ b ∧ w 349 b = w 349 x - 1)) (hF : ∀ k, w' 349 k = w 349 k) (hE : edK w w') (hb' : ∀ y, lnk w f x y (s + 1) → y = b') : nrr w' f m n x (s + 1) b' := by
  obtain ⟨y, u, q1, q2, q3, q4, q5⟩ := h
  have hne : s ≠ u := fun e => by
    have e1 := q5 e
    rw [e1] at hb
    exact hb ⟨q1.1, q4⟩
  exact ⟨y, u, q1, by omega, q3.ed hE, by rw [hF, hF]; exact q4, fun e => by rw [← e] at q3; exact (hb' y q3).symm⟩
theorem nrr.lt {w : eW} {f : Int → Int} {m n x s b : Int} (h : nrr w f m n x s b) : s < 2 * m := by
  obtain ⟨y, u, -, q2, -⟩ := h; omega
theorem nrr.lt2 {w : eW} {f : Int → Int} {m n x s b : Int} (h : nrr w f m n x s b) (hb : ¬ (0 ≤ b ∧ w 349 b = w 349 x - 1)) : s + 1 < 2 * m := by
  obtain ⟨y, u, q1, q2, q3, q4, q5⟩ := h
  have hne : s ≠ u := fun e => by
    have e1 := q5 e
    rw [e1] at hb
    exact hb ⟨q1.1, q4⟩
  omega
theorem rem_dvd {x y : Int} (hx : -1000000 ≤ x ∧ x ≤ 1000000) (hy : 1 ≤ y) : (-1000000 ≤ x.tdiv y ∧ x.tdiv y ≤ 1000000) ∧ (-1000000 ≤ x.tdiv y * y ∧ x.tdiv y * y ≤ 1000000) := by
  by_cases h : 0 ≤ x
  · rw [Int.tdiv_eq_ediv_of_nonneg h]
    have h1 : 0 ≤ x / y := Int.ediv_nonneg h (by omega)
    have h2 : x / y ≤ x := Int.ediv_le_self y h
    have h3 : x / y * y ≤ x := Int.ediv_mul_le x (by omega)
    have h4 : 0 ≤ x / y * y := Int.mul_nonneg h1 (by omega)
    omega
  · have e : x.tdiv y = -((-x) / y) := by
      rw [← Int.tdiv_eq_ediv_of_nonneg (by omega), Int.neg_tdiv, Int.neg_neg]
    rw [e, Int.neg_mul]
    have h1 : 0 ≤ (-x) / y := Int.ediv_nonneg (by omega) (by omega)
    have h2 : (-x) / y ≤ -x := Int.ediv_le_self y (by omega)
    have h3 : (-x) / y * y ≤ -x := Int.ediv_mul_le (-x) (by omega)
    have h4 : 0 ≤ (-x) / y * y := Int.mul_nonneg h1 (by omega)
    omega
/-- an aim on the grid -/
theorem aim_grid {v lo hi n a first down up nodes q : Int} (hn : 1 ≤ n) (hv : lo ≤ v ∧ v ≤ hi) (hd : down = (v - lo) / n) (hu : up = (hi - v) / n) (hf : first = v - down * n) (hN : nodes = down + up + 1) (ha : lo ≤ a ∧ a ≤ hi) (hq : a - first = q * n) : 0 ≤ q ∧ q < nodes := by
  have e1 := Int.mul_ediv_add_emod (v - lo) n
  have e2 := Int.mul_ediv_add_emod (hi - v) n
  have b1 := Int.emod_lt_of_pos (v - lo) (show 0 < n by omega)
  have b2 := Int.emod_nonneg (v - lo) (show n ≠ 0 by omega)
  have b3 := Int.emod_lt_of_pos (hi - v) (show 0 < n by omega)
  have b4 := Int.emod_nonneg (hi - v) (show n ≠ 0 by omega)
  rw [← hd, Int.mul_comm] at e1
  rw [← hu, Int.mul_comm] at e2
  have h1 : -n < q * n := by omega
  have h2 : q * n < (down + up + 1) * n := by rw [Int.add_mul, Int.add_mul, Int.one_mul]; omega
  constructor
  · by_cases g : 0 ≤ q
    · exact g
    · exfalso
      have : q * n ≤ (-1) * n := Int.mul_le_mul_of_nonneg_right (by omega) (by omega)
      omega
  · rw [hN]
    exact Int.lt_of_mul_lt_mul_right h2 (by omega)
theorem val_grid {v lo hi n first down up nodes d : Int} (hn : 1 ≤ n) (hv : lo ≤ v ∧ v ≤ hi) (hd : down = (v - lo) / n) (hu : up = (hi - v) / n) (hf : first = v - down * n) (hN : nodes = down + up + 1) (h : 0 ≤ d ∧ d < nodes) : lo ≤ first + n * d ∧ first + n * d ≤ hi := by
  have e1 := Int.mul_ediv_add_emod (v - lo) n
  have e2 := Int.mul_ediv_add_emod (hi - v) n
  have b2 := Int.emod_nonneg (v - lo) (show n ≠ 0 by omega)
  have b4 := Int.emod_nonneg (hi - v) (show n ≠ 0 by omega)
  rw [← hd, Int.mul_comm] at e1
  rw [← hu, Int.mul_comm] at e2
  have h1 : 0 ≤ n * d := Int.mul_nonneg (by omega) h.1
  have h2 : n * d ≤ n * (down + up) := Int.mul_le_mul_of_nonneg_left (by omega) (by omega)
  rw [Int.mul_add, Int.mul_comm n down, Int.mul_comm n up] at h2
  omega
section E9p
variable {fd : Nat} {lay : List eY} {code : Nat → Nat → eE} {I : Nat → xM} {d M p : Nat} {l : eL} {w : eW} {Q : List eV → eW → Prop} {a b : Nat}
theorem e_Ok.l2ix {nx : Nat} {r : List eV} {x : Int} (hc : code M p = (0, ei_unL (fun x => (0, e32 x)) nx, a, b)) (hx : -2147483648 ≤ x ∧ x ≤ 2147483647) (h : e_Ok fd lay code I d M (nx, l, (0, x) :: r, w) Q) : e_Ok fd lay code I d M (p, l, (4, x) :: r, w) Q :=
  e_Ok.step hc rfl (show e_Ok fd lay code I d M (nx, l, (0, e32 x) :: r, w) Q by rw [e32_id hx.1 hx.2]; exact h)
theorem e_Ok.remd {nx : Nat} {r : List eV} {x y : Int} (hc : code M p = (0, ei_bin eF_rem nx, a, b)) (hx : -1000000 ≤ x ∧ x ≤ 1000000) (hy : 1 ≤ y) (h : ∀ z, (z = 0 ↔ ∃ q, x = q * y) → -2147483648 ≤ z → z ≤ 2147483647 → e_Ok fd lay code I d M (nx, l, (0, z) :: r, w) Q) : e_Ok fd lay code I d M (p, l, (0, y) :: (0, x) :: r, w) Q := by
  have hb := rem_dvd hx hy
  have e : eF_rem x y = some (e32 (x - x.tdiv y * y)) := by
    unfold eF_rem
    rw [decide_eq_false (by omega), e32_id (z := x.tdiv y) (by omega) (by omega), e32_id (z := x.tdiv y * y) (by omega) (by omega)]
    rfl
  refine e_Ok.step hc ?_ (h (e32 (x - x.tdiv y * y)) ⟨fun q => ?_, fun q => ?_⟩ (e32_in _).1 (e32_in _).2)
  · show (match eF_rem x y with | some z => _ | none => none) = _
    rw [e]
  · rw [e32_id (by omega) (by omega)] at q
    exact ⟨x.tdiv y, by omega⟩
  · obtain ⟨q, rfl⟩ := q
    rw [Int.mul_tdiv_cancel q (by omega), Int.sub_self]
    exact e32_id (by decide) (by decide)
end E9p
theorem c_410_f {d : Nat} {w : eW} (hT : e_Has mTy w) {x j m : Int} {f : Int → Int} (hf : ∀ k, w 347 k = f k) (hx : 0 ≤ x ∧ x ≤ 1000) (hj : 0 ≤ j ∧ j < m) (hm : m ≤ 6) (hN : ∀ k, 0 ≤ k → k < m → 1 ≤ f k ∧ f k ≤ 200001) : e_Ok 20 elay ecode eI d 410 (0, [(0, (1, 275)), (1, (0, x)), (2, (0, j))], [], w) (fun r w' => r = [(0, dg f x j.toNat)] ∧ w = w') := by
  obtain rfl : (fun k => w 347 k) = f := funext hf
  refine (c_410 hT hx hj hm hN).imp (fun r w' h => ⟨?_, h.2⟩)
  rw [h.1]
  unfold dg
  rw [show ((j.toNat : Nat) : Int) = j by omega]
theorem c_411_f {d : Nat} {w : eW} (hT : e_Has mTy w) {j m : Int} {f : Int → Int} (hf : ∀ k, w 347 k = f k) (hj : 0 ≤ j ∧ j ≤ m) (hm : m ≤ 6) (hN : ∀ k, 0 ≤ k → k < m → 1 ≤ f k ∧ f k ≤ 200001) (hP : prd f m.toNat ≤ 1000) : e_Ok 20 elay ecode eI d 411 (0, [(0, (1, 275)), (1, (0, j))], [], w) (fun r w' => r = [(0, prd f j.toNat)] ∧ w = w') := by
  obtain rfl : (fun k => w 347 k) = f := funext hf
  exact c_411 hT hj hm hN hP
theorem prd_bd {f : Int → Int} {m j : Int} (hm : 0 ≤ m) (hj : 0 ≤ j ∧ j ≤ m) (hN : ∀ k, 0 ≤ k → k < m → 1 ≤ f k ∧ f k ≤ 200001) (hP : prd f m.toNat ≤ 1000) : 1 ≤ prd f j.toNat ∧ prd f j.toNat ≤ 1000 := by
  have h1 := prd_pos (f := f) (n := j.toNat) (fun k g1 g2 => (hN k g1 (by omega)).1)
  have h2 := prd_le (f := f) (m := j.toNat) (n := m.toNat) (by omega) (fun k g1 g2 => (hN k g1 (by omega)).1)
  omega
theorem su_9p_6 {c k : Int} (q : mSe c k) : mS c k := by
  unfold mSe mCl at q
  rcases q with (⟨(q | q), ⟨q, q⟩⟩ | ⟨q, ⟨q, q⟩⟩ | q | q) | q | ⟨q, q⟩
  · exact Or.inl ⟨(by omega), (by omega)⟩
  · exact Or.inl ⟨(by omega), (by omega)⟩
  · exact Or.inr (Or.inr ⟨(by omega), Or.inl ⟨(by omega), (by omega)⟩⟩)
  · exact Or.inl ⟨(by omega), (by omega)⟩
  · exact Or.inl ⟨(by omega), (by omega)⟩
  · exact Or.inl ⟨(by omega), (by omega)⟩
  · exact Or.inr (Or.inl ⟨(by omega), (by omega)⟩)
theorem mT_Se {w w' : eW} (f : e_fr mSe w w') (h : e_Has mTy w) : e_Has mTy w' := mT_S (f.mono (fun c k q => su_9p_6 q)) h
theorem tn_se {c k : Int} (q : mTn1 c k) : mSe c k := Or.inr (Or.inl q)
theorem fn_fe {c k : Int} (h : mFn c k) : mFe c k := h.elim (fun q => Or.inl q) (fun q => Or.inr (by omega))
theorem mT_Tn1 {w w' : eW} (f : e_fr mTn1 w w') (h : e_Has mTy w) : e_Has mTy w' := mT_Se (f.mono (fun _ _ q => tn_se q)) h
theorem mT_Cl {w w' : eW} (f : e_fr mCl w w') (h : e_Has mTy w) : e_Has mTy w' := mT_Se (f.mono (fun _ _ q => cl_se q)) h
theorem mT_Fn {w w' : eW} (f : e_fr mFn w w') (h : e_Has mTy w) : e_Has mTy w' := mT_Se (f.mono (fun _ _ q => fn_se q)) h
theorem mT_Fe {w w' : eW} (f : e_fr mFe w w') (h : e_Has mTy w) : e_Has mTy w' := mT_Se (f.mono (fun _ _ q => fe_se q)) h
theorem ed_up {w wp w' : eW} {k z : Int} (h : ∀ e, wp 352 e = w 352 e) (h0 : w 352 k = 0) (hw : e_up wp 352 k z = w') : edK w w' := fun e q => by
  rw [← hw, e_up_ne _ _ (Or.inr (fun g => by rw [g] at q; exact q h0))]
  exact h e
theorem rm_up {a m n x j : Int} {f : Int → Int} (hF : plF a m f) (hn : n = prd f m.toNat) (hj : 0 ≤ j ∧ j < m) (hx : 0 ≤ x ∧ x < n) (hd : dg f x j.toNat + 1 < f j) : x + prd f j.toNat < n := by
  obtain ⟨-, -, h3, -⟩ := hF
  rw [hn] at hx ⊢
  unfold dg at hd
  exact dv_room (by omega) (fun k g1 g2 => (h3 k g1 (by omega)).1) hx (by rw [show ((j.toNat : Nat) : Int) = j by omega] at hd ⊢; exact hd)
theorem rm_dn {a m x j : Int} {f : Int → Int} (hF : plF a m f) (hj : 0 ≤ j ∧ j < m) (hx : 0 ≤ x) (hd : 0 < dg f x j.toNat) : 0 ≤ x - prd f j.toNat := by
  obtain ⟨-, -, h3, -⟩ := hF
  exact dv_low (fun k g1 g2 => (h3 k g1 (by omega)).1) hx (h3 _ (by omega) (by omega)).1 hd
theorem bfs.q {w : eW} {f : Int → Int} {m n t i : Int} (h : bfs w f m n t) (hn : n ≤ 1000) (hi : 0 ≤ i ∧ i < t) : 0 ≤ w 350 i ∧ w 350 i ≤ 999 := by
  have := (h.2.1 i hi.1 hi.2).1; omega
theorem bfs.d {w : eW} {f : Int → Int} {m n t x : Int} (h : bfs w f m n t) (hn : n ≤ 1000) (hx : 0 ≤ x ∧ x < n) : -1 ≤ w 349 x ∧ w 349 x ≤ 999 := by
  have := h.2.2.2.1 x hx.1 hx.2; have := h.1; omega
end
end
-- part 9q
section
noncomputable section
theorem no_9q_0 {k : Int} : ¬ mTn1 275 k := by unfold mTn1; omega
theorem no_9q_1 {k : Int} : ¬ mTn1 286 k := by unfold mTn1; omega
theorem no_9q_2 {k : Int} : ¬ mTn1 348 k := by unfold mTn1; omega
theorem c_412 {d : Nat} (hd : 21 ≤ d) {w : eW} (hT : e_Has mTy w) {a m : Int} {f : Int → Int} (hF : plF a m f) (hP : plC w a m f) {x : Int} (hx : 0 ≤ x ∧ x ≤ 1000) : e_Ok 20 elay ecode eI d 412 (0, [(0, (1, 275)), (1, (0, x))], [], w) (fun r w' => r = [] ∧ e_fr mTn1 w w' ∧ e_kn w' 323 0 (m - 1)) := by
  obtain ⟨d, rfl⟩ : ∃ e, d = e + 1 := ⟨d - 1, by omega⟩
  have hA := (e_Has.get hT (c := 275) (k := 10) (lo := 0) (hi := 4) (mt_o rfl) (by decide)).2
  have hFa := hF.1
  have hFm := hF.2.1
  have hFp := hF.2.2.2
  refine e_Ok.run (t' := (2, [(2, (0, 0)), (0, (1, 275)), (1, (0, x))], [], w)) 2 rfl ?_
  have hL1 : ∀ (nn : Nat) (y2 : Int) (v1 : eW), e_fr mTn1 w v1 ∧ (0 ≤ y2 ∧ y2 ≤ m) ∧ e_kn v1 323 0 (y2 - 1) → 7 - y2 < nn → e_Ok 20 elay ecode eI (d + 1) 412 (2, [(0, (1, 275)), (1, (0, x)), (2, (0, y2))], [], v1) (fun r w' => r = [] ∧ e_fr mTn1 w w' ∧ e_kn w' 323 0 (m - 1)) := by
    intro nn
    induction nn with
    | zero => intro y2 v1 hj hm; obtain ⟨j3, j4, j5⟩ := hj; exfalso; omega
    | succ nn ih2 =>
      intro y2 v1 hj hm
      obtain ⟨j3, j4, j5⟩ := hj
      refine e_Ok.run (t' := (4, [(0, (1, 275)), (1, (0, x)), (2, (0, y2))], [(1, 275), (0, y2)], v1)) 2 rfl ?_
      refine e_Ok.getr (z := 286) rfl (el_o rfl) rfl (ef_o rfl) ((j3 275 15 no_9q_0).trans (e_Has.eq hT (mt_o rfl))) ⟨by decide, by decide⟩ ?_
      refine e_Ok.ps1 (x := (1, 275)) (q := 8) 1 rfl ?_
      refine e_Ok.getf (z := a) rfl (el_o rfl) rfl (ef_o rfl) ((j3 275 110 no_9q_0).trans hP.1) (by omega) ?_
      refine e_Ok.ald (z := m) rfl (el_o rfl) rfl (by omega) ((j3 286 a no_9q_1).trans hP.2.1) (by omega) ?_
      refine e_Ok.if2 rfl (fun h6 => ?_) (fun h6 => ?_)
      · replace h6 : (y2 : Int) ≥ m := h6
        refine e_Ok.rets rfl rfl ?_
        exact ⟨rfl, j3, fun i g1 g2 => j5 i g1 (by omega)⟩
      · replace h6 : (y2 : Int) < m := Int.not_le.mp (show ¬ ((y2 : Int) ≥ m) from h6)
        refine e_Ok.ps1 (x := (1, 275)) (q := 16) 1 rfl ?_
        refine e_Ok.getr (z := 323) rfl (el_o rfl) rfl (ef_o rfl) ((j3 275 57 no_9q_0).trans (e_Has.eq hT (mt_o rfl))) ⟨by decide, by decide⟩ ?_
        refine e_Ok.ps2 (x := (1, 275)) (y := (0, y2)) (q := 21) 2 rfl ?_
        refine e_Ok.getr (z := 348) rfl (el_o rfl) rfl (ef_o rfl) ((j3 275 105 no_9q_0).trans (e_Has.eq hT (mt_o rfl))) ⟨by decide, by decide⟩ ?_
        refine e_Ok.ps1 (x := (0, y2)) (q := 25) 1 rfl ?_
        have h7 := (hP.2.2.2.2.2.1 y2 (by omega) (by omega))
        refine e_Ok.ald (z := w 348 y2) rfl (el_o rfl) rfl (by omega) ((j3 348 y2 no_9q_2).trans rfl) (by omega) ?_
        refine e_Ok.ps1 (x := (1, 275)) (q := 27) 1 rfl ?_
        have h8 := hP.2.2.2.1
        refine e_Ok.getf (z := w 275 111) rfl (el_o rfl) rfl (ef_o rfl) ((j3 275 111 no_9q_0).trans rfl) (by omega) ?_
        refine e_Ok.ps3 (x := (0, y2)) (y := (0, x)) (z := (1, 275)) (q := 33) 3 rfl ?_
        refine e_Ok.callV rfl (e_dq hd rfl) rfl rfl rfl rfl (c_410_f (mT_Tn1 j3 hT) (plC.fr hP hA (e_fr.mono j3 (fun c k q => tn_se q))).2.2.1 (by omega) (by omega) (by omega) hF.2.2.1) (fun r9 w10 h11 => ?_)
        obtain ⟨q12, rfl⟩ := h11
        obtain ⟨z13, hz13⟩ : ∃ z, z = dg f x y2.toNat := ⟨_, rfl⟩
        rw [← hz13] at q12; subst q12
        have z13b := (show 0 ≤ z13 ∧ z13 ≤ 200000 from by have h1 := hF.2.2.1 y2 (by omega) (by omega); have h2 := dg_in (f := f) (x := x) (j := y2.toNat) (by rw [show ((y2.toNat : Nat) : Int) = y2 by omega]; exact h1.1); rw [show ((y2.toNat : Nat) : Int) = y2 by omega] at h2; omega)
        show e_Ok 20 elay ecode eI (d + 1) 412 (36, [(0, (1, 275)), (1, (0, x)), (2, (0, y2))], [(0, z13), (0, w 275 111), (0, w 348 y2), (0, y2), (1, 323)], v1) _
        refine e_Ok.any rfl (eF_mul_any _ _) (fun z14 z14a z14b => ?_)
        refine e_Ok.any rfl (eF_add_any _ _) (fun z15 z15a z15b => ?_)
        refine e_Ok.ast rfl (el_o rfl) rfl rfl (by omega) ?_
        generalize hw16 : e_up v1 323 y2 z15 = w16
        refine e_Ok.inc (z := y2 + 1) rfl rfl (by first | with_reducible rfl | omega) (by omega) ?_
        show e_Ok 20 elay ecode eI (d + 1) 412 (42, [(2, (0, y2 + 1)), (0, (1, 275)), (1, (0, x))], [], w16) _
        refine e_Ok.ps0 (q := 2) 1 rfl ?_
        refine e_Ok.sub eAlk (e_sub_of rfl ?_) (ih2 (y2 + 1) w16 ⟨(show e_fr mTn1 w w16 from e_fr.up j3 hw16 (by first | exact rfl | (unfold mTn1; omega))), by omega, (fun i g1 g2 => e_kn.ext (k := y2) j5 hw16 (by omega) (by omega) i g1 (by omega))⟩ (by omega))
        exact ⟨rfl, rfl, rfl, trivial⟩
  refine e_Ok.sub eAlk (e_sub_of rfl ?_) (hL1 (7 + 1 : Int).toNat 0 w ⟨e_fr.refl w, by omega, fun i g1 g2 => by omega⟩ (by omega))
  exact ⟨rfl, rfl, rfl, trivial⟩
theorem no_9q_3 {t : Int} {k : Int} : ¬ mPt t 275 k := by unfold mPt; omega
theorem no_9q_4 {k : Int} : ¬ mCl 286 k := by unfold mCl; omega
theorem su_9q_32 {c k : Int} (q : mL c k) : mCl c k := by
  unfold mL at q
  rcases q with ⟨q, ⟨q, q⟩⟩ | q | q
  · exact Or.inr (Or.inl ⟨(by omega), ⟨(by omega), (by omega)⟩⟩)
  · exact Or.inr (Or.inr (Or.inl (by omega)))
  · exact Or.inr (Or.inr (Or.inr (by omega)))
theorem c_413 {d : Nat} (hd : 26 ≤ d) {w : eW} (hT : e_Has mTy w) {a m : Int} {f : Int → Int} (hF : plF a m f) (hP : plC w a m f) (k1 : e_kn w 323 0 (m - 1)) : e_Ok 20 elay ecode eI d 413 (0, [(0, (1, 275))], [], w) (fun r w' => ∃ z : Int, r = [(0, z)] ∧ e_fr mCl w w' ∧ 0 ≤ z ∧ z ≤ 1) := by
  obtain ⟨d, rfl⟩ : ∃ e, d = e + 1 := ⟨d - 1, by omega⟩
  have hA := (e_Has.get hT (c := 275) (k := 10) (lo := 0) (hi := 4) (mt_o rfl) (by decide)).2
  have hFa := hF.1
  have hFm := hF.2.1
  have hFp := hF.2.2.2
  refine e_Ok.ps2 (x := (1, 275)) (y := (1, 275)) (q := 2) 2 rfl ?_
  refine e_Ok.getf (z := a) rfl (el_o rfl) rfl (ef_o rfl) hP.1 (by omega) ?_
  refine e_Ok.ps1 (x := (0, 1)) (q := 6) 1 rfl ?_
  refine e_Ok.callV rfl (e_dq hd rfl) rfl rfl rfl rfl (c_301_1 (e_dq hd rfl) hT hF.1 (by rw [hP.2.1]; exact k1)) (fun r1 w2 h3 => ?_)
  obtain ⟨rfl, q4, q4k⟩ := h3
  have f5 : e_fr mCl w w2 := e_fr.trans (e_fr.refl w) (e_fr.mono q4 (fun c k q => by unfold mPt at q; unfold mCl; omega))
  refine e_Ok.nrm (q := 9) (st' := []) rfl rfl ?_
  refine e_Ok.ps2 (x := (1, 275)) (y := (1, 275)) (q := 11) 2 rfl ?_
  refine e_Ok.getf (z := a) rfl (el_o rfl) rfl (ef_o rfl) ((q4 275 110 (by first | exact no_9q_3 | (unfold mPt; omega))).trans hP.1) (by omega) ?_
  refine e_Ok.ps2 (x := (1, 275)) (y := (0, 28)) (q := 17) 2 rfl ?_
  have h6 := hP.2.2.2.2.1
  refine e_Ok.getf (z := w 275 112) rfl (el_o rfl) rfl (ef_o rfl) ((q4 275 112 (by first | exact no_9q_3 | (unfold mPt; omega))).trans rfl) (by omega) ?_
  have q4e : w2 286 a = w 286 a := f5 286 a no_9q_4
  refine e_Ok.callV rfl (e_dq hd rfl) rfl rfl rfl rfl (c_317 (e_dq hd rfl) (mT_Cl f5 hT) hF.1 (by omega) (by rw [q4e]; exact q4k.1) (by rw [q4e]; exact q4k.2) (fun b g1 g2 => ((plC.fr hP hA (e_fr.mono f5 (fun c k q => cl_se q))).2.2.2.2.2.2 b g1 g2).2)) (fun r7 w8 h9 => ?_)
  obtain ⟨z11, rfl, q10, z11b⟩ := h9
  have f12 : e_fr mCl w w8 := e_fr.trans f5 (e_fr.mono q10 (fun c k q => su_9q_32 q))
  refine e_Ok.nrm (q := 23) (st' := [(0, z11)]) rfl rfl ?_
  refine e_Ok.if1 rfl (fun h13 => ?_) (fun h13 => ?_)
  · replace h13 : (z11 : Int) ≠ 0 := h13
    refine e_Ok.ps1 (x := (0, 0)) (q := 31) 1 rfl ?_
    refine e_Ok.rets rfl rfl ?_
    exact ⟨_, rfl, f12, by decide, by decide⟩
  · replace h13 : (z11 : Int) = 0 := Classical.not_not.mp (show ¬ ((z11 : Int) ≠ 0) from h13)
    refine e_Ok.ps1 (x := (0, 1)) (q := 31) 2 rfl ?_
    refine e_Ok.rets rfl rfl ?_
    exact ⟨_, rfl, f12, by decide, by decide⟩
theorem no_9q_5 : ¬ mCl 275 108 := by unfold mCl; omega
theorem c_414 {d : Nat} (hd : 27 ≤ d) {w : eW} (hT : e_Has mTy w) {a m : Int} {f : Int → Int} (hF : plF a m f) (hP : plC w a m f) {n : Int} (hn : n ≤ 1000) {x : Int} (hx : 0 ≤ x ∧ x < n) (kf : e_kn w 351 0 (n - 1)) : e_Ok 20 elay ecode eI d 414 (0, [(0, (1, 275)), (1, (0, x))], [], w) (fun r w' => ∃ z : Int, r = [(0, z)] ∧ (0 ≤ z ∧ z ≤ 1) ∧ e_fr mFn w w' ∧ e_kn w' 351 0 (n - 1)) := by
  obtain ⟨d, rfl⟩ : ∃ e, d = e + 1 := ⟨d - 1, by omega⟩
  have hA := (e_Has.get hT (c := 275) (k := 10) (lo := 0) (hi := 4) (mt_o rfl) (by decide)).2
  have hFa := hF.1
  have hFm := hF.2.1
  have hFp := hF.2.2.2
  refine e_Ok.ps1 (x := (1, 275)) (q := 1) 1 rfl ?_
  refine e_Ok.getr (z := 351) rfl (el_o rfl) rfl (ef_o rfl) (e_Has.eq hT (mt_o rfl)) ⟨by decide, by decide⟩ ?_
  refine e_Ok.ps1 (x := (0, x)) (q := 5) 1 rfl ?_
  have h1 := (kf x (by omega) (by omega))
  refine e_Ok.ald (z := w 351 x) rfl (el_o rfl) rfl (by omega) rfl (by omega) ?_
  refine e_Ok.if1 rfl (fun h2 => ?_) (fun h2 => ?_)
  · replace h2 : (w 351 x : Int) ≠ 0 := h2
    refine e_Ok.ps1 (x := (1, 275)) (q := 33) 1 rfl ?_
    refine e_Ok.getr (z := 351) rfl (el_o rfl) rfl (ef_o rfl) (e_Has.eq hT (mt_o rfl)) ⟨by decide, by decide⟩ ?_
    refine e_Ok.ps1 (x := (0, x)) (q := 37) 1 rfl ?_
    refine e_Ok.ald (z := w 351 x) rfl (el_o rfl) rfl (by omega) rfl (by omega) ?_
    refine e_Ok.ps1 (x := (0, 1)) (q := 39) 1 rfl ?_
    refine e_Ok.if2 rfl (fun h3 => ?_) (fun h3 => ?_)
    · replace h3 : (w 351 x : Int) ≠ 1 := h3
      refine e_Ok.ps1 (x := (0, 0)) (q := 47) 1 rfl ?_
      refine e_Ok.rets rfl rfl ?_
      exact ⟨_, rfl, by omega, (e_fr.refl w), kf⟩
    · replace h3 : (w 351 x : Int) = 1 := Classical.not_not.mp (show ¬ ((w 351 x : Int) ≠ 1) from h3)
      refine e_Ok.ps1 (x := (0, 1)) (q := 47) 2 rfl ?_
      refine e_Ok.rets rfl rfl ?_
      exact ⟨_, rfl, by omega, (e_fr.refl w), kf⟩
  · replace h2 : (w 351 x : Int) = 0 := Classical.not_not.mp (show ¬ ((w 351 x : Int) ≠ 0) from h2)
    refine e_Ok.ps2 (x := (0, x)) (y := (1, 275)) (q := 11) 2 rfl ?_
    refine e_Ok.callV rfl (e_dq hd rfl) rfl rfl rfl rfl (c_412 (e_dq hd rfl) hT hF hP (by omega)) (fun r4 w5 h6 => ?_)
    obtain ⟨rfl, q7, q7k⟩ := h6
    have f8 : e_fr mFn w w5 := e_fr.trans (e_fr.refl w) (e_fr.mono q7 (fun c k q => by exact Or.inr (Or.inl q)))
    refine e_Ok.nrm (q := 14) (st' := []) rfl rfl ?_
    refine e_Ok.ps1 (x := (1, 275)) (q := 15) 1 rfl ?_
    refine e_Ok.getr (z := 351) rfl (el_o rfl) rfl (ef_o rfl) ((q7 275 108 no_9q_0).trans (e_Has.eq hT (mt_o rfl))) ⟨by decide, by decide⟩ ?_
    refine e_Ok.ps2 (x := (1, 275)) (y := (0, x)) (q := 20) 2 rfl ?_
    refine e_Ok.callV rfl (e_dq hd rfl) rfl rfl rfl rfl (c_413 (e_dq hd rfl) (mT_Fn f8 hT) hF (plC.fr hP hA (e_fr.mono f8 (fun c k q => fn_se q))) q7k) (fun r9 w10 h11 => ?_)
    obtain ⟨z13, rfl, q12, z13b⟩ := h11
    have f14 : e_fr mFn w w10 := e_fr.trans f8 (e_fr.mono q12 (fun c k q => by exact Or.inl q))
    refine e_Ok.nrm (q := 23) (st' := [(0, z13), (0, x), (1, 351)]) rfl rfl ?_
    refine e_Ok.if1 rfl (fun h15 => ?_) (fun h15 => ?_)
    · replace h15 : (z13 : Int) = 0 := h15
      refine e_Ok.ps1 (x := (0, 2)) (q := 31) 1 rfl ?_
      refine e_Ok.ast rfl (el_o rfl) rfl rfl (by omega) ?_
      generalize hw16 : e_up w10 351 x 2 = w16
      refine e_Ok.ps1 (x := (1, 275)) (q := 33) 1 rfl ?_
      refine e_Ok.getr (z := 351) rfl (el_o rfl) rfl (ef_o rfl) (e_uq hw16 (Or.inl (by decide)) ((q12 275 108 no_9q_5).trans ((q7 275 108 no_9q_0).trans (e_Has.eq hT (mt_o rfl))))) ⟨by decide, by decide⟩ ?_
      refine e_Ok.ps1 (x := (0, x)) (q := 37) 1 rfl ?_
      refine e_Ok.ald (z := 2) rfl (el_o rfl) rfl (by omega) (e_ue hw16) (by omega) ?_
      refine e_Ok.ps1 (x := (0, 1)) (q := 39) 1 rfl ?_
      refine e_Ok.if2 rfl (fun h18 => ?_) (fun h18 => ?_)
      · replace h18 : (2 : Int) ≠ 1 := h18
        refine e_Ok.ps1 (x := (0, 0)) (q := 47) 1 rfl ?_
        refine e_Ok.rets rfl rfl ?_
        exact ⟨_, rfl, by omega, (show e_fr mFn w w16 from e_fr.up f14 hw16 (by first | exact Or.inr (Or.inr rfl) | (unfold mFn mCl; omega))), (e_kn.upd (e_kn.fr q12 (fun k q => by unfold mCl at q; omega) (e_kn.fr q7 (fun k q => by unfold mTn1 at q; omega) kf)) hw16 (by omega))⟩
      · replace h18 : (2 : Int) = 1 := Classical.not_not.mp (show ¬ ((2 : Int) ≠ 1) from h18)
        exfalso; omega
    · replace h15 : (z13 : Int) ≠ 0 := (show ¬ ((z13 : Int) = 0) from h15)
      refine e_Ok.ps1 (x := (0, 1)) (q := 31) 2 rfl ?_
      refine e_Ok.ast rfl (el_o rfl) rfl rfl (by omega) ?_
      generalize hw19 : e_up w10 351 x 1 = w19
      refine e_Ok.ps1 (x := (1, 275)) (q := 33) 1 rfl ?_
      refine e_Ok.getr (z := 351) rfl (el_o rfl) rfl (ef_o rfl) (e_uq hw19 (Or.inl (by decide)) ((q12 275 108 no_9q_5).trans ((q7 275 108 no_9q_0).trans (e_Has.eq hT (mt_o rfl))))) ⟨by decide, by decide⟩ ?_
      refine e_Ok.ps1 (x := (0, x)) (q := 37) 1 rfl ?_
      refine e_Ok.ald (z := 1) rfl (el_o rfl) rfl (by omega) (e_ue hw19) (by omega) ?_
      refine e_Ok.ps1 (x := (0, 1)) (q := 39) 1 rfl ?_
      refine e_Ok.if2 rfl (fun h21 => ?_) (fun h21 => ?_)
      · replace h21 : (1 : Int) ≠ 1 := h21
        exfalso; omega
      · replace h21 : (1 : Int) = 1 := Classical.not_not.mp (show ¬ ((1 : Int) ≠ 1) from h21)
        refine e_Ok.ps1 (x := (0, 1)) (q := 47) 2 rfl ?_
        refine e_Ok.rets rfl rfl ?_
        exact ⟨_, rfl, by omega, (show e_fr mFn w w19 from e_fr.up f14 hw19 (by first | exact Or.inr (Or.inr rfl) | (unfold mFn mCl; omega))), (e_kn.upd (e_kn.fr q12 (fun k q => by unfold mCl at q; omega) (e_kn.fr q7 (fun k q => by unfold mTn1 at q; omega) kf)) hw19 (by omega))⟩
theorem no_9q_6 : ¬ mFn 275 109 := by unfold mFn mCl; omega
theorem no_9q_7 {k : Int} : ¬ mFn 352 k := by unfold mFn mCl; omega
theorem no_9q_8 : ¬ mFe 275 111 := by unfold mFe mCl; omega
theorem no_9q_9 : ¬ mFe 275 109 := by unfold mFe mCl; omega
theorem no_9q_10 : ¬ mFe 275 57 := by unfold mFe mCl; omega
theorem no_9q_11 {k : Int} : ¬ mCl 352 k := by unfold mCl; omega
theorem no_9q_12 {k : Int} : ¬ mTn1 352 k := by unfold mTn1; omega
set_option maxHeartbeats 4000000 in
theorem c_415 {d : Nat} (hd : 28 ≤ d) {w : eW} (hT : e_Has mTy w) {a m : Int} {f : Int → Int} (hF : plF a m f) (hP : plC w a m f) {n : Int} (hn : n = prd f m.toNat) {x j : Int} (hj : 0 ≤ j ∧ j < m) (hx : 0 ≤ x) (hxj : x + prd f j.toNat < n) (kf : e_kn w 351 0 (n - 1)) (ke : e_kn w 352 0 (6 * n - 1)) : e_Ok 20 elay ecode eI d 415 (0, [(0, (1, 275)), (1, (0, x)), (2, (0, j))], [], w) (fun r w' => ∃ z : Int, r = [(0, z)] ∧ e_fr mFe w w' ∧ e_kn w' 351 0 (n - 1) ∧ e_kn w' 352 0 (6 * n - 1) ∧ edK w w' ∧ ((z = 1 ∧ w' 352 (6 * x + j) = 1) ∨ (z = 0 ∧ w' 352 (6 * x + j) ≠ 1))) := by
  obtain ⟨d, rfl⟩ : ∃ e, d = e + 1 := ⟨d - 1, by omega⟩
  have hA := (e_Has.get hT (c := 275) (k := 10) (lo := 0) (hi := 4) (mt_o rfl) (by decide)).2
  have hFa := hF.1
  have hFm := hF.2.1
  have hFp := hF.2.2.2
  have hn1 : 1 ≤ n ∧ n ≤ 1000 := by rw [hn]; exact prd_bd (by omega) ⟨by omega, Int.le_refl m⟩ hF.2.2.1 hFp
  have hpj := prd_bd (f := f) (j := j) (by omega) (by omega) hF.2.2.1 hFp
  refine e_Ok.ps2 (x := (0, x)) (y := (0, 6)) (q := 3) 2 rfl ?_
  refine e_Ok.mul (z := 6 * x) rfl rfl (by omega) ?_
  refine e_Ok.ps1 (x := (0, j)) (q := 5) 1 rfl ?_
  refine e_Ok.add (z := 6 * x + j) rfl rfl (by omega) ?_
  refine e_Ok.run (t' := (8, [(3, (0, 6 * x + j)), (0, (1, 275)), (1, (0, x)), (2, (0, j))], [(1, 275)], w)) 2 rfl ?_
  refine e_Ok.getr (z := 352) rfl (el_o rfl) rfl (ef_o rfl) (e_Has.eq hT (mt_o rfl)) ⟨by decide, by decide⟩ ?_
  refine e_Ok.ps1 (x := (0, 6 * x + j)) (q := 12) 1 rfl ?_
  have h1 := (ke (6 * x + j) (by omega) (by omega))
  refine e_Ok.ald (z := w 352 (6 * x + j)) rfl (el_o rfl) rfl (by omega) rfl (by omega) ?_
  refine e_Ok.if1 rfl (fun h2 => ?_) (fun h2 => ?_)
  · replace h2 : (w 352 (6 * x + j) : Int) ≠ 0 := h2
    refine e_Ok.ps1 (x := (1, 275)) (q := 111) 1 rfl ?_
    refine e_Ok.getr (z := 352) rfl (el_o rfl) rfl (ef_o rfl) (e_Has.eq hT (mt_o rfl)) ⟨by decide, by decide⟩ ?_
    refine e_Ok.ps1 (x := (0, 6 * x + j)) (q := 115) 1 rfl ?_
    refine e_Ok.ald (z := w 352 (6 * x + j)) rfl (el_o rfl) rfl (by omega) rfl (by omega) ?_
    refine e_Ok.ps1 (x := (0, 1)) (q := 117) 1 rfl ?_
    refine e_Ok.if2 rfl (fun h3 => ?_) (fun h3 => ?_)
    · replace h3 : (w 352 (6 * x + j) : Int) ≠ 1 := h3
      refine e_Ok.ps1 (x := (0, 0)) (q := 125) 1 rfl ?_
      refine e_Ok.rets rfl rfl ?_
      have e4 : w 352 (6 * x + j) = w 352 (6 * x + j) := rfl
      exact ⟨_, rfl, (e_fr.refl w), kf, ke, (edK.same (fun e => rfl)), Or.inr ⟨rfl, by omega⟩⟩
    · replace h3 : (w 352 (6 * x + j) : Int) = 1 := Classical.not_not.mp (show ¬ ((w 352 (6 * x + j) : Int) ≠ 1) from h3)
      refine e_Ok.ps1 (x := (0, 1)) (q := 125) 2 rfl ?_
      refine e_Ok.rets rfl rfl ?_
      have e5 : w 352 (6 * x + j) = w 352 (6 * x + j) := rfl
      exact ⟨_, rfl, (e_fr.refl w), kf, ke, (edK.same (fun e => rfl)), Or.inl ⟨rfl, by omega⟩⟩
  · replace h2 : (w 352 (6 * x + j) : Int) = 0 := Classical.not_not.mp (show ¬ ((w 352 (6 * x + j) : Int) ≠ 0) from h2)
    refine e_Ok.ps2 (x := (0, x)) (y := (1, 275)) (q := 18) 2 rfl ?_
    refine e_Ok.callV rfl (e_dq hd rfl) rfl rfl rfl rfl (c_414 (e_dq hd rfl) hT hF hP (n := n) (by omega) (by omega) kf) (fun r6 w7 h8 => ?_)
    obtain ⟨z10, rfl, z10b, q9, q9k⟩ := h8
    have f11 : e_fr mFe w w7 := e_fr.trans (e_fr.refl w) (e_fr.mono q9 (fun c k q => by exact fn_fe q))
    refine e_Ok.nrm (q := 21) (st' := [(0, z10)]) rfl rfl ?_
    refine e_Ok.if1 rfl (fun h12 => ?_) (fun h12 => ?_)
    · replace h12 : (z10 : Int) = 0 := h12
      refine e_Ok.run (t' := (47, [(4, (0, 0)), (3, (0, 6 * x + j)), (0, (1, 275)), (1, (0, x)), (2, (0, j))], [(0, 0)], w7)) 3 rfl ?_
      refine e_Ok.if1 rfl (fun h13 => ?_) (fun h13 => ?_)
      · replace h13 : (0 : Int) = 0 := h13
        refine e_Ok.ps1 (x := (1, 275)) (q := 95) 1 rfl ?_
        refine e_Ok.getr (z := 352) rfl (el_o rfl) rfl (ef_o rfl) ((q9 275 109 no_9q_6).trans (e_Has.eq hT (mt_o rfl))) ⟨by decide, by decide⟩ ?_
        refine e_Ok.ps2 (x := (0, 0)) (y := (0, 6 * x + j)) (q := 101) 2 rfl ?_
        refine e_Ok.if1 rfl (fun h14 => ?_) (fun h14 => ?_)
        · replace h14 : (0 : Int) = 0 := h14
          refine e_Ok.ps1 (x := (0, 2)) (q := 109) 1 rfl ?_
          refine e_Ok.ast rfl (el_o rfl) rfl rfl (by omega) ?_
          generalize hw15 : e_up w7 352 (6 * x + j) 2 = w15
          refine e_Ok.ps1 (x := (1, 275)) (q := 111) 1 rfl ?_
          refine e_Ok.getr (z := 352) rfl (el_o rfl) rfl (ef_o rfl) (e_uq hw15 (Or.inl (by decide)) ((q9 275 109 no_9q_6).trans (e_Has.eq hT (mt_o rfl)))) ⟨by decide, by decide⟩ ?_
          refine e_Ok.ps1 (x := (0, 6 * x + j)) (q := 115) 1 rfl ?_
          refine e_Ok.ald (z := 2) rfl (el_o rfl) rfl (by omega) (e_ue hw15) (by omega) ?_
          refine e_Ok.ps1 (x := (0, 1)) (q := 117) 1 rfl ?_
          refine e_Ok.if2 rfl (fun h17 => ?_) (fun h17 => ?_)
          · replace h17 : (2 : Int) ≠ 1 := h17
            refine e_Ok.ps1 (x := (0, 0)) (q := 125) 1 rfl ?_
            refine e_Ok.rets rfl rfl ?_
            have e18 : w15 352 (6 * x + j) = 2 := (e_ue hw15)
            exact ⟨_, rfl, (show e_fr mFe w w15 from e_fr.up f11 hw15 (by first | exact Or.inr (Or.inr (Or.inr rfl)) | (unfold mFe mCl; omega))), (e_kn.oth q9k hw15 (by decide)), (e_kn.upd (e_kn.fr q9 (fun k q => by unfold mFn mCl at q; omega) ke) hw15 (by omega)), (ed_up (fun e => Eq.trans (q9 352 e no_9q_7) ((fun e => rfl) e)) (by omega) hw15), Or.inr ⟨rfl, by omega⟩⟩
          · replace h17 : (2 : Int) = 1 := Classical.not_not.mp (show ¬ ((2 : Int) ≠ 1) from h17)
            exfalso; omega
        · replace h14 : (0 : Int) ≠ 0 := (show ¬ ((0 : Int) = 0) from h14)
          exfalso; omega
      · replace h13 : (0 : Int) ≠ 0 := (show ¬ ((0 : Int) = 0) from h13)
        exfalso; omega
    · replace h12 : (z10 : Int) ≠ 0 := (show ¬ ((z10 : Int) = 0) from h12)
      refine e_Ok.ps4 (x := (0, j)) (y := (1, 275)) (z := (0, x)) (u := (1, 275)) (q := 28) 4 rfl ?_
      refine e_Ok.callV rfl (e_dq hd rfl) rfl rfl rfl rfl (c_411_f (mT_Fe f11 hT) (plC.fr hP hA (e_fr.mono f11 (fun c k q => fe_se q))).2.2.1 (by omega) (by omega) hF.2.2.1 hFp) (fun r19 w20 h21 => ?_)
      obtain ⟨q22, rfl⟩ := h21
      obtain ⟨z23, hz23⟩ : ∃ z, z = prd f j.toNat := ⟨_, rfl⟩
      rw [← hz23] at q22; subst q22
      have z23b := (show 1 ≤ z23 ∧ z23 ≤ 1000 from by rw [hz23]; exact prd_bd (by omega) (by omega) hF.2.2.1 hFp)
      show e_Ok 20 elay ecode eI (d + 1) 415 (31, [(3, (0, 6 * x + j)), (0, (1, 275)), (1, (0, x)), (2, (0, j))], [(0, z23), (0, x), (1, 275)], w7) _
      refine e_Ok.add (z := x + z23) rfl rfl (by omega) ?_
      refine e_Ok.callV rfl (e_dq hd rfl) rfl rfl rfl rfl (c_414 (e_dq hd rfl) (mT_Fe f11 hT) hF (plC.fr hP hA (e_fr.mono f11 (fun c k q => fe_se q))) (n := n) (by omega) (by omega) q9k) (fun r24 w25 h26 => ?_)
      obtain ⟨z28, rfl, z28b, q27, q27k⟩ := h26
      have f29 : e_fr mFe w w25 := e_fr.trans f11 (e_fr.mono q27 (fun c k q => by exact fn_fe q))
      refine e_Ok.nrm (q := 35) (st' := [(0, z28)]) rfl rfl ?_
      refine e_Ok.if1 rfl (fun h30 => ?_) (fun h30 => ?_)
      · replace h30 : (z28 : Int) = 0 := h30
        refine e_Ok.run (t' := (47, [(4, (0, 0)), (3, (0, 6 * x + j)), (0, (1, 275)), (1, (0, x)), (2, (0, j))], [(0, 0)], w25)) 3 rfl ?_
        refine e_Ok.if1 rfl (fun h31 => ?_) (fun h31 => ?_)
        · replace h31 : (0 : Int) = 0 := h31
          refine e_Ok.ps1 (x := (1, 275)) (q := 95) 1 rfl ?_
          refine e_Ok.getr (z := 352) rfl (el_o rfl) rfl (ef_o rfl) ((q27 275 109 no_9q_6).trans ((q9 275 109 no_9q_6).trans (e_Has.eq hT (mt_o rfl)))) ⟨by decide, by decide⟩ ?_
          refine e_Ok.ps2 (x := (0, 0)) (y := (0, 6 * x + j)) (q := 101) 2 rfl ?_
          refine e_Ok.if1 rfl (fun h32 => ?_) (fun h32 => ?_)
          · replace h32 : (0 : Int) = 0 := h32
            refine e_Ok.ps1 (x := (0, 2)) (q := 109) 1 rfl ?_
            refine e_Ok.ast rfl (el_o rfl) rfl rfl (by omega) ?_
            generalize hw33 : e_up w25 352 (6 * x + j) 2 = w33
            refine e_Ok.ps1 (x := (1, 275)) (q := 111) 1 rfl ?_
            refine e_Ok.getr (z := 352) rfl (el_o rfl) rfl (ef_o rfl) (e_uq hw33 (Or.inl (by decide)) ((q27 275 109 no_9q_6).trans ((q9 275 109 no_9q_6).trans (e_Has.eq hT (mt_o rfl))))) ⟨by decide, by decide⟩ ?_
            refine e_Ok.ps1 (x := (0, 6 * x + j)) (q := 115) 1 rfl ?_
            refine e_Ok.ald (z := 2) rfl (el_o rfl) rfl (by omega) (e_ue hw33) (by omega) ?_
            refine e_Ok.ps1 (x := (0, 1)) (q := 117) 1 rfl ?_
            refine e_Ok.if2 rfl (fun h35 => ?_) (fun h35 => ?_)
            · replace h35 : (2 : Int) ≠ 1 := h35
              refine e_Ok.ps1 (x := (0, 0)) (q := 125) 1 rfl ?_
              refine e_Ok.rets rfl rfl ?_
              have e36 : w33 352 (6 * x + j) = 2 := (e_ue hw33)
              exact ⟨_, rfl, (show e_fr mFe w w33 from e_fr.up f29 hw33 (by first | exact Or.inr (Or.inr (Or.inr rfl)) | (unfold mFe mCl; omega))), (e_kn.oth q27k hw33 (by decide)), (e_kn.upd (e_kn.fr q27 (fun k q => by unfold mFn mCl at q; omega) (e_kn.fr q9 (fun k q => by unfold mFn mCl at q; omega) ke)) hw33 (by omega)), (ed_up (fun e => Eq.trans (q27 352 e no_9q_7) ((fun e => Eq.trans (q9 352 e no_9q_7) ((fun e => rfl) e)) e)) (by omega) hw33), Or.inr ⟨rfl, by omega⟩⟩
            · replace h35 : (2 : Int) = 1 := Classical.not_not.mp (show ¬ ((2 : Int) ≠ 1) from h35)
              exfalso; omega
          · replace h32 : (0 : Int) ≠ 0 := (show ¬ ((0 : Int) = 0) from h32)
            exfalso; omega
        · replace h31 : (0 : Int) ≠ 0 := (show ¬ ((0 : Int) = 0) from h31)
          exfalso; omega
      · replace h30 : (z28 : Int) ≠ 0 := (show ¬ ((z28 : Int) = 0) from h30)
        refine e_Ok.run (t' := (47, [(4, (0, 1)), (3, (0, 6 * x + j)), (0, (1, 275)), (1, (0, x)), (2, (0, j))], [(0, 1)], w25)) 4 rfl ?_
        refine e_Ok.if1 rfl (fun h37 => ?_) (fun h37 => ?_)
        · replace h37 : (1 : Int) = 0 := h37
          exfalso; omega
        · replace h37 : (1 : Int) ≠ 0 := (show ¬ ((1 : Int) = 0) from h37)
          refine e_Ok.ps2 (x := (0, x)) (y := (1, 275)) (q := 52) 2 rfl ?_
          refine e_Ok.callV rfl (e_dq hd rfl) rfl rfl rfl rfl (c_412 (e_dq hd rfl) (mT_Fe f29 hT) hF (plC.fr hP hA (e_fr.mono f29 (fun c k q => fe_se q))) (by omega)) (fun r38 w40 h41 => ?_)
          obtain ⟨rfl, q42, q42k⟩ := h41
          refine e_Ok.nrm (q := 55) (st' := []) rfl rfl ?_
          refine e_Ok.run (t' := (58, [(5, (0, 1)), (4, (0, 1)), (3, (0, 6 * x + j)), (0, (1, 275)), (1, (0, x)), (2, (0, j))], [], w40)) 2 rfl ?_
          have hL44 : ∀ (nn : Nat) (y4 : Int) (y5 : Int) (v1 : eW), e_fr mFe w v1 ∧ (0 ≤ y4 ∧ y4 ≤ 1) ∧ (1 ≤ y5 ∧ y5 ≤ 16) ∧ e_kn v1 323 0 (m - 1) ∧ e_kn v1 351 0 (n - 1) ∧ (∀ e, v1 352 e = w 352 e) → 17 - y5 < nn → e_Ok 20 elay ecode eI (d + 1) 415 (58, [(0, (1, 275)), (1, (0, x)), (2, (0, j)), (3, (0, 6 * x + j)), (4, (0, y4)), (5, (0, y5))], [], v1) (fun r w' => ∃ z : Int, r = [(0, z)] ∧ e_fr mFe w w' ∧ e_kn w' 351 0 (n - 1) ∧ e_kn w' 352 0 (6 * n - 1) ∧ edK w w' ∧ ((z = 1 ∧ w' 352 (6 * x + j) = 1) ∨ (z = 0 ∧ w' 352 (6 * x + j) ≠ 1))) := by
            intro nn
            induction nn with
            | zero => intro y4 y5 v1 hj hm; obtain ⟨j46, j47, j48, j49, j50, j51⟩ := hj; exfalso; omega
            | succ nn ih45 =>
              intro y4 y5 v1 hj hm
              obtain ⟨j46, j47, j48, j49, j50, j51⟩ := hj
              refine e_Ok.run (t' := (61, [(0, (1, 275)), (1, (0, x)), (2, (0, j)), (3, (0, 6 * x + j)), (4, (0, y4)), (5, (0, y5))], [(1, 275), (0, y5)], v1)) 2 rfl ?_
              have h52 := hP.2.2.2.1
              refine e_Ok.getf (z := w 275 111) rfl (el_o rfl) rfl (ef_o rfl) ((j46 275 111 no_9q_8).trans rfl) (by omega) ?_
              refine e_Ok.if2 rfl (fun h53 => ?_) (fun h53 => ?_)
              · replace h53 : (y5 : Int) ≥ w 275 111 := h53
                refine e_Ok.ps1 (x := (1, 275)) (q := 95) 1 rfl ?_
                refine e_Ok.getr (z := 352) rfl (el_o rfl) rfl (ef_o rfl) ((j46 275 109 no_9q_9).trans (e_Has.eq hT (mt_o rfl))) ⟨by decide, by decide⟩ ?_
                refine e_Ok.ps2 (x := (0, y4)) (y := (0, 6 * x + j)) (q := 101) 2 rfl ?_
                refine e_Ok.if1 rfl (fun h54 => ?_) (fun h54 => ?_)
                · replace h54 : (y4 : Int) = 0 := h54
                  refine e_Ok.ps1 (x := (0, 2)) (q := 109) 1 rfl ?_
                  refine e_Ok.ast rfl (el_o rfl) rfl rfl (by omega) ?_
                  generalize hw55 : e_up v1 352 (6 * x + j) 2 = w55
                  refine e_Ok.ps1 (x := (1, 275)) (q := 111) 1 rfl ?_
                  refine e_Ok.getr (z := 352) rfl (el_o rfl) rfl (ef_o rfl) (e_uq hw55 (Or.inl (by decide)) ((j46 275 109 no_9q_9).trans (e_Has.eq hT (mt_o rfl)))) ⟨by decide, by decide⟩ ?_
                  refine e_Ok.ps1 (x := (0, 6 * x + j)) (q := 115) 1 rfl ?_
                  refine e_Ok.ald (z := 2) rfl (el_o rfl) rfl (by omega) (e_ue hw55) (by omega) ?_
                  refine e_Ok.ps1 (x := (0, 1)) (q := 117) 1 rfl ?_
                  refine e_Ok.if2 rfl (fun h57 => ?_) (fun h57 => ?_)
                  · replace h57 : (2 : Int) ≠ 1 := h57
                    refine e_Ok.ps1 (x := (0, 0)) (q := 125) 1 rfl ?_
                    refine e_Ok.rets rfl rfl ?_
                    have e58 : w55 352 (6 * x + j) = 2 := (e_ue hw55)
                    exact ⟨_, rfl, (show e_fr mFe w w55 from e_fr.up j46 hw55 (by first | exact Or.inr (Or.inr (Or.inr rfl)) | (unfold mFe mCl; omega))), (e_kn.oth j50 hw55 (by decide)), (e_kn.upd (fun i g1 g2 => by rw [j51 i]; exact ke i g1 g2) hw55 (by omega)), (ed_up j51 (by omega) hw55), Or.inr ⟨rfl, by omega⟩⟩
                  · replace h57 : (2 : Int) = 1 := Classical.not_not.mp (show ¬ ((2 : Int) ≠ 1) from h57)
                    exfalso; omega
                · replace h54 : (y4 : Int) ≠ 0 := (show ¬ ((y4 : Int) = 0) from h54)
                  refine e_Ok.ps1 (x := (0, 1)) (q := 109) 2 rfl ?_
                  refine e_Ok.ast rfl (el_o rfl) rfl rfl (by omega) ?_
                  generalize hw59 : e_up v1 352 (6 * x + j) 1 = w59
                  refine e_Ok.ps1 (x := (1, 275)) (q := 111) 1 rfl ?_
                  refine e_Ok.getr (z := 352) rfl (el_o rfl) rfl (ef_o rfl) (e_uq hw59 (Or.inl (by decide)) ((j46 275 109 no_9q_9).trans (e_Has.eq hT (mt_o rfl)))) ⟨by decide, by decide⟩ ?_
                  refine e_Ok.ps1 (x := (0, 6 * x + j)) (q := 115) 1 rfl ?_
                  refine e_Ok.ald (z := 1) rfl (el_o rfl) rfl (by omega) (e_ue hw59) (by omega) ?_
                  refine e_Ok.ps1 (x := (0, 1)) (q := 117) 1 rfl ?_
                  refine e_Ok.if2 rfl (fun h61 => ?_) (fun h61 => ?_)
                  · replace h61 : (1 : Int) ≠ 1 := h61
                    exfalso; omega
                  · replace h61 : (1 : Int) = 1 := Classical.not_not.mp (show ¬ ((1 : Int) ≠ 1) from h61)
                    refine e_Ok.ps1 (x := (0, 1)) (q := 125) 2 rfl ?_
                    refine e_Ok.rets rfl rfl ?_
                    have e62 : w59 352 (6 * x + j) = 1 := (e_ue hw59)
                    exact ⟨_, rfl, (show e_fr mFe w w59 from e_fr.up j46 hw59 (by first | exact Or.inr (Or.inr (Or.inr rfl)) | (unfold mFe mCl; omega))), (e_kn.oth j50 hw59 (by decide)), (e_kn.upd (fun i g1 g2 => by rw [j51 i]; exact ke i g1 g2) hw59 (by omega)), (ed_up j51 (by omega) hw59), Or.inl ⟨rfl, by omega⟩⟩
              · replace h53 : (y5 : Int) < w 275 111 := Int.not_le.mp (show ¬ ((y5 : Int) ≥ w 275 111) from h53)
                refine e_Ok.ps1 (x := (0, y4)) (q := 69) 1 rfl ?_
                refine e_Ok.if1 rfl (fun h63 => ?_) (fun h63 => ?_)
                · replace h63 : (y4 : Int) = 0 := h63
                  refine e_Ok.ps1 (x := (1, 275)) (q := 95) 1 rfl ?_
                  refine e_Ok.getr (z := 352) rfl (el_o rfl) rfl (ef_o rfl) ((j46 275 109 no_9q_9).trans (e_Has.eq hT (mt_o rfl))) ⟨by decide, by decide⟩ ?_
                  refine e_Ok.ps2 (x := (0, y4)) (y := (0, 6 * x + j)) (q := 101) 2 rfl ?_
                  refine e_Ok.if1 rfl (fun h64 => ?_) (fun h64 => ?_)
                  · replace h64 : (y4 : Int) = 0 := h64
                    refine e_Ok.ps1 (x := (0, 2)) (q := 109) 1 rfl ?_
                    refine e_Ok.ast rfl (el_o rfl) rfl rfl (by omega) ?_
                    generalize hw65 : e_up v1 352 (6 * x + j) 2 = w65
                    refine e_Ok.ps1 (x := (1, 275)) (q := 111) 1 rfl ?_
                    refine e_Ok.getr (z := 352) rfl (el_o rfl) rfl (ef_o rfl) (e_uq hw65 (Or.inl (by decide)) ((j46 275 109 no_9q_9).trans (e_Has.eq hT (mt_o rfl)))) ⟨by decide, by decide⟩ ?_
                    refine e_Ok.ps1 (x := (0, 6 * x + j)) (q := 115) 1 rfl ?_
                    refine e_Ok.ald (z := 2) rfl (el_o rfl) rfl (by omega) (e_ue hw65) (by omega) ?_
                    refine e_Ok.ps1 (x := (0, 1)) (q := 117) 1 rfl ?_
                    refine e_Ok.if2 rfl (fun h67 => ?_) (fun h67 => ?_)
                    · replace h67 : (2 : Int) ≠ 1 := h67
                      refine e_Ok.ps1 (x := (0, 0)) (q := 125) 1 rfl ?_
                      refine e_Ok.rets rfl rfl ?_
                      have e68 : w65 352 (6 * x + j) = 2 := (e_ue hw65)
                      exact ⟨_, rfl, (show e_fr mFe w w65 from e_fr.up j46 hw65 (by first | exact Or.inr (Or.inr (Or.inr rfl)) | (unfold mFe mCl; omega))), (e_kn.oth j50 hw65 (by decide)), (e_kn.upd (fun i g1 g2 => by rw [j51 i]; exact ke i g1 g2) hw65 (by omega)), (ed_up j51 (by omega) hw65), Or.inr ⟨rfl, by omega⟩⟩
                    · replace h67 : (2 : Int) = 1 := Classical.not_not.mp (show ¬ ((2 : Int) ≠ 1) from h67)
                      exfalso; omega
                  · replace h64 : (y4 : Int) ≠ 0 := (show ¬ ((y4 : Int) = 0) from h64)
                    exfalso; omega
                · replace h63 : (y4 : Int) ≠ 0 := (show ¬ ((y4 : Int) = 0) from h63)
                  refine e_Ok.ps1 (x := (1, 275)) (q := 73) 1 rfl ?_
                  refine e_Ok.getr (z := 323) rfl (el_o rfl) rfl (ef_o rfl) ((j46 275 57 no_9q_10).trans (e_Has.eq hT (mt_o rfl))) ⟨by decide, by decide⟩ ?_
                  refine e_Ok.ps3 (x := (0, j)) (y := (1, 323)) (z := (0, j)) (q := 78) 2 rfl ?_
                  have h69 := (j49 j (by omega) (by omega))
                  refine e_Ok.ald (z := v1 323 j) rfl (el_o rfl) rfl (by omega) rfl (by omega) ?_
                  refine e_Ok.ps1 (x := (0, 1)) (q := 80) 1 rfl ?_
                  refine e_Ok.any rfl (eF_add_any _ _) (fun z70 z70a z70b => ?_)
                  refine e_Ok.ast rfl (el_o rfl) rfl rfl (by omega) ?_
                  generalize hw71 : e_up v1 323 j z70 = w71
                  have f72 : e_fr mFe w w71 := e_fr.up j46 hw71 (by first | exact Or.inr (Or.inl rfl) | (unfold mFe mCl; omega))
                  refine e_Ok.ps1 (x := (1, 275)) (q := 83) 1 rfl ?_
                  refine e_Ok.callV rfl (e_dq hd rfl) rfl rfl rfl rfl (c_413 (e_dq hd rfl) (mT_Fe f72 hT) hF (plC.fr hP hA (e_fr.mono f72 (fun c k q => fe_se q))) (e_kn.upd j49 hw71 (by omega))) (fun r73 w74 h75 => ?_)
                  obtain ⟨z77, rfl, q76, z77b⟩ := h75
                  refine e_Ok.nrm (q := 86) (st' := [(0, z77)]) rfl rfl ?_
                  refine e_Ok.run (t' := (88, [(4, (0, z77)), (0, (1, 275)), (1, (0, x)), (2, (0, j)), (3, (0, 6 * x + j)), (5, (0, y5))], [], w74)) 1 rfl ?_
                  refine e_Ok.inc (z := y5 + 1) rfl rfl (by first | with_reducible rfl | omega) (by omega) ?_
                  show e_Ok 20 elay ecode eI (d + 1) 415 (91, [(5, (0, y5 + 1)), (4, (0, z77)), (0, (1, 275)), (1, (0, x)), (2, (0, j)), (3, (0, 6 * x + j))], [], w74) _
                  refine e_Ok.ps0 (q := 58) 1 rfl ?_
                  refine e_Ok.sub eAlk (e_sub_of rfl ?_) (ih45 z77 (y5 + 1) w74 ⟨(show e_fr mFe w w74 from e_fr.trans f72 (e_fr.mono q76 (fun c k q => by exact Or.inl q))), by omega, by omega, (e_kn.fr q76 (fun k q => by unfold mCl at q; omega) (e_kn.upd j49 hw71 (by omega))), (e_kn.fr q76 (fun k q => by unfold mCl at q; omega) (e_kn.oth j50 hw71 (by decide))), (fun e => Eq.trans (q76 352 e no_9q_11) ((fun e => Eq.trans (show w71 352 e = v1 352 e from by rw [← hw71]; exact e_up_ne _ _ (Or.inl (by decide))) (j51 e)) e))⟩ (by omega))
                  exact ⟨rfl, rfl, rfl, rfl, rfl, rfl, trivial⟩
          refine e_Ok.sub eAlk (e_sub_of rfl ?_) (hL44 (17 + 1 : Int).toNat 1 1 w40 ⟨(show e_fr mFe w w40 from e_fr.trans f29 (e_fr.mono q42 (fun c k q => by exact Or.inr (Or.inl q)))), by omega, by omega, q42k, (e_kn.fr q42 (fun k q => by unfold mTn1 at q; omega) q27k), (fun e => Eq.trans (q42 352 e no_9q_12) ((fun e => Eq.trans (q27 352 e no_9q_7) ((fun e => Eq.trans (q9 352 e no_9q_7) ((fun e => rfl) e)) e)) e))⟩ (by omega))
          exact ⟨rfl, rfl, rfl, rfl, rfl, rfl, trivial⟩
set_option maxHeartbeats 4000000 in
theorem c_416 {d : Nat} (hd : 29 ≤ d) {w : eW} (hT : e_Has mTy w) {a m : Int} {f : Int → Int} (hF : plF a m f) (hP : plC w a m f) {n : Int} (hn : n = prd f m.toNat) {x s : Int} (hx : 0 ≤ x ∧ x < n) (hs : 0 ≤ s ∧ s < 2 * m) (kf : e_kn w 351 0 (n - 1)) (ke : e_kn w 352 0 (6 * n - 1)) : e_Ok 20 elay ecode eI d 416 (0, [(0, (1, 275)), (1, (0, x)), (2, (0, s))], [], w) (fun r w' => ∃ z : Int, r = [(0, z)] ∧ e_fr mFe w w' ∧ e_kn w' 351 0 (n - 1) ∧ e_kn w' 352 0 (6 * n - 1) ∧ edK w w' ∧ ((z = -1 ∧ ∀ y, ¬ lnk w f x y s) ∨ ((0 ≤ z ∧ z < n) ∧ lnk w' f x z s ∧ ∀ y, lnk w f x y s → y = z))) := by
  obtain ⟨d, rfl⟩ : ∃ e, d = e + 1 := ⟨d - 1, by omega⟩
  have hA := (e_Has.get hT (c := 275) (k := 10) (lo := 0) (hi := 4) (mt_o rfl) (by decide)).2
  have hFa := hF.1
  have hFm := hF.2.1
  have hFp := hF.2.2.2
  have hn1 : 1 ≤ n ∧ n ≤ 1000 := by rw [hn]; exact prd_bd (by omega) ⟨by omega, Int.le_refl m⟩ hF.2.2.1 hFp
  refine e_Ok.ps2 (x := (0, 2)) (y := (0, s)) (q := 2) 2 rfl ?_
  refine e_Ok.divn (fun z1 hz1 => ?_) rfl (by omega) (by omega)
  replace hz1 : z1 = s / 2 := hz1
  have z1r : 0 ≤ z1 ∧ z1 ≤ 5 := by omega
  refine e_Ok.run (t' := (7, [(3, (0, z1)), (0, (1, 275)), (1, (0, x)), (2, (0, s))], [(0, z1), (0, x), (1, 275)], w)) 4 rfl ?_
  refine e_Ok.callV rfl (e_dq hd rfl) rfl rfl rfl rfl (c_410_f hT hP.2.2.1 (by omega) (by omega) (by omega) hF.2.2.1) (fun r2 w3 h4 => ?_)
  obtain ⟨q5, rfl⟩ := h4
  obtain ⟨z6, hz6⟩ : ∃ z, z = dg f x z1.toNat := ⟨_, rfl⟩
  rw [← hz6] at q5; subst q5
  have z6b := (show 0 ≤ z6 ∧ z6 ≤ 200000 from by have h1 := hF.2.2.1 z1 (by omega) (by omega); have h2 := dg_in (f := f) (x := x) (j := z1.toNat) (by rw [show ((z1.toNat : Nat) : Int) = z1 by omega]; exact h1.1); rw [show ((z1.toNat : Nat) : Int) = z1 by omega] at h2; omega)
  show e_Ok 20 elay ecode eI (d + 1) 416 (10, [(3, (0, z1)), (0, (1, 275)), (1, (0, x)), (2, (0, s))], [(0, z6)], w) _
  refine e_Ok.run (t' := (12, [(4, (0, z6)), (3, (0, z1)), (0, (1, 275)), (1, (0, x)), (2, (0, s))], [], w)) 1 rfl ?_
  have hfj := hF.2.2.1 z1 (by omega) (by omega)
  have hsj : z1 = s / 2 := by omega
  refine e_Ok.ps2 (x := (0, 2)) (y := (0, s)) (q := 14) 2 rfl ?_
  refine e_Ok.remn (fun z7 hz7 => ?_) rfl (by omega) (by omega)
  replace hz7 : z7 = s % 2 := hz7
  have z7r : 0 ≤ z7 ∧ z7 ≤ 1 := by omega
  refine e_Ok.if1 rfl (fun h8 => ?_) (fun h8 => ?_)
  · replace h8 : (z7 : Int) ≠ 0 := h8
    refine e_Ok.ps1 (x := (0, z6)) (q := 54) 1 rfl ?_
    refine e_Ok.if1 rfl (fun h9 => ?_) (fun h9 => ?_)
    · replace h9 : (z6 : Int) ≤ 0 := h9
      refine e_Ok.ps1 (x := (0, (-1))) (q := 83) 1 rfl ?_
      refine e_Ok.rets rfl rfl ?_
      exact ⟨_, rfl, (e_fr.refl w), kf, ke, (edK.same (fun e => rfl)), Or.inl ⟨rfl, (bs_dn_no1 (by omega) (by rw [← hsj, ← hz6]; omega))⟩⟩
    · replace h9 : (z6 : Int) > 0 := Int.not_le.mp (show ¬ ((z6 : Int) ≤ 0) from h9)
      refine e_Ok.ps4 (x := (0, z1)) (y := (1, 275)) (z := (0, x)) (u := (1, 275)) (q := 61) 4 rfl ?_
      refine e_Ok.callV rfl (e_dq hd rfl) rfl rfl rfl rfl (c_411_f hT hP.2.2.1 (by omega) (by omega) hF.2.2.1 hFp) (fun r10 w11 h12 => ?_)
      obtain ⟨q13, rfl⟩ := h12
      obtain ⟨z14, hz14⟩ : ∃ z, z = prd f z1.toNat := ⟨_, rfl⟩
      rw [← hz14] at q13; subst q13
      have z14b := (show 1 ≤ z14 ∧ z14 ≤ 1000 from by rw [hz14]; exact prd_bd (by omega) (by omega) hF.2.2.1 hFp)
      show e_Ok 20 elay ecode eI (d + 1) 416 (64, [(4, (0, z6)), (3, (0, z1)), (0, (1, 275)), (1, (0, x)), (2, (0, s))], [(0, z14), (0, x), (1, 275)], w) _
      refine e_Ok.sub' (z := x - z14) rfl rfl (by omega) ?_
      have hlow := rm_dn hF (j := z1) (by omega) hx.1 (by rw [← hz6]; omega)
      rw [← hz14] at hlow
      refine e_Ok.run (t' := (66, [(4, (0, z6)), (3, (0, z1)), (0, (1, 275)), (1, (0, x)), (2, (0, s))], [(0, z1), (0, x - z14), (1, 275)], w)) 1 rfl ?_
      refine e_Ok.callV rfl (e_dq hd rfl) rfl rfl rfl rfl (c_415 (e_dq hd rfl) hT hF hP hn (by omega) (by omega) (by rw [← hz14]; omega) kf ke) (fun r15 w16 h17 => ?_)
      obtain ⟨z19, rfl, q18, q18f, q18g, q18d, q18c⟩ := h17
      have f20 : e_fr mFe w w16 := e_fr.trans (e_fr.refl w) (e_fr.mono q18 (fun c k q => by exact q))
      obtain ⟨rfl, q18c⟩ | ⟨rfl, q18c⟩ := q18c
      · refine e_Ok.nrm (q := 69) (st' := [(0, 1)]) rfl rfl ?_
        refine e_Ok.if1 rfl (fun h21 => ?_) (fun h21 => ?_)
        · replace h21 : (1 : Int) = 0 := h21
          exfalso; omega
        · replace h21 : (1 : Int) ≠ 0 := (show ¬ ((1 : Int) = 0) from h21)
          refine e_Ok.ps3 (x := (0, z1)) (y := (1, 275)) (z := (0, x)) (q := 75) 3 rfl ?_
          refine e_Ok.callV rfl (e_dq hd rfl) rfl rfl rfl rfl (c_411_f (mT_Fe f20 hT) (plC.fr hP hA (e_fr.mono f20 (fun c k q => fe_se q))).2.2.1 (by omega) (by omega) hF.2.2.1 hFp) (fun r22 w23 h24 => ?_)
          obtain ⟨q25, rfl⟩ := h24
          obtain ⟨z26, hz26⟩ : ∃ z, z = prd f z1.toNat := ⟨_, rfl⟩
          rw [← hz26] at q25; subst q25
          have z26b := (show 1 ≤ z26 ∧ z26 ≤ 1000 from by rw [hz26]; exact prd_bd (by omega) (by omega) hF.2.2.1 hFp)
          show e_Ok 20 elay ecode eI (d + 1) 416 (78, [(4, (0, z6)), (3, (0, z1)), (0, (1, 275)), (1, (0, x)), (2, (0, s))], [(0, z26), (0, x)], w16) _
          refine e_Ok.sub' (z := x - z26) rfl rfl (by omega) ?_
          refine e_Ok.ps0 (q := 83) 1 rfl ?_
          refine e_Ok.rets rfl rfl ?_
          have hzz : z26 = z14 := by rw [hz26, hz14]
          have hyes := (show lnk w16 f x (x - z26) s ∧ ∀ y, lnk w f x y s → y = x - z26 from bs_dn_yes (by omega) hsj hz26 (by rw [← hz6]; omega) (by rw [hzz]; exact q18c))
          have hin := hyes.1.1.in (n := m.toNat) (by omega) (fun k g1 g2 => (hF.2.2.1 k g1 (by omega)).1) (by rw [← hn]; exact hx)
          rw [← hn] at hin
          exact ⟨_, rfl, f20, q18f, q18g, q18d, Or.inr ⟨hin, hyes.1, hyes.2⟩⟩
      · refine e_Ok.nrm (q := 69) (st' := [(0, 0)]) rfl rfl ?_
        refine e_Ok.if1 rfl (fun h27 => ?_) (fun h27 => ?_)
        · replace h27 : (0 : Int) = 0 := h27
          refine e_Ok.ps1 (x := (0, (-1))) (q := 83) 1 rfl ?_
          refine e_Ok.rets rfl rfl ?_
          exact ⟨_, rfl, f20, q18f, q18g, q18d, Or.inl ⟨rfl, (bs_dn_no2 (by omega) hsj hz14 q18d q18c)⟩⟩
        · replace h27 : (0 : Int) ≠ 0 := (show ¬ ((0 : Int) = 0) from h27)
          exfalso; omega
  · replace h8 : (z7 : Int) = 0 := Classical.not_not.mp (show ¬ ((z7 : Int) ≠ 0) from h8)
    refine e_Ok.ps2 (x := (0, 1)) (y := (0, z6)) (q := 21) 2 rfl ?_
    refine e_Ok.add (z := z6 + 1) rfl rfl (by omega) ?_
    refine e_Ok.ps1 (x := (1, 275)) (q := 23) 1 rfl ?_
    refine e_Ok.getr (z := 347) rfl (el_o rfl) rfl (ef_o rfl) (e_Has.eq hT (mt_o rfl)) ⟨by decide, by decide⟩ ?_
    refine e_Ok.ps1 (x := (0, z1)) (q := 27) 1 rfl ?_
    refine e_Ok.ald (z := f z1) rfl (el_o rfl) rfl (by omega) (hP.2.2.1 z1) (by omega) ?_
    refine e_Ok.if2 rfl (fun h28 => ?_) (fun h28 => ?_)
    · replace h28 : (z6 + 1 : Int) ≥ f z1 := h28
      refine e_Ok.ps1 (x := (0, (-1))) (q := 51) 1 rfl ?_
      refine e_Ok.rets rfl rfl ?_
      exact ⟨_, rfl, (e_fr.refl w), kf, ke, (edK.same (fun e => rfl)), Or.inl ⟨rfl, (bs_up_no1 (by omega) (by rw [← hsj, ← hz6]; omega))⟩⟩
    · replace h28 : (z6 + 1 : Int) < f z1 := Int.not_le.mp (show ¬ ((z6 + 1 : Int) ≥ f z1) from h28)
      refine e_Ok.ps3 (x := (0, z1)) (y := (0, x)) (z := (1, 275)) (q := 34) 3 rfl ?_
      refine e_Ok.callV rfl (e_dq hd rfl) rfl rfl rfl rfl (c_415 (e_dq hd rfl) hT hF hP hn (by omega) (by omega) (rm_up hF hn (by omega) (by omega) (by rw [← hz6]; omega)) kf ke) (fun r29 w30 h31 => ?_)
      obtain ⟨z33, rfl, q32, q32f, q32g, q32d, q32c⟩ := h31
      have f34 : e_fr mFe w w30 := e_fr.trans (e_fr.refl w) (e_fr.mono q32 (fun c k q => by exact q))
      obtain ⟨rfl, q32c⟩ | ⟨rfl, q32c⟩ := q32c
      · refine e_Ok.nrm (q := 37) (st' := [(0, 1)]) rfl rfl ?_
        refine e_Ok.if1 rfl (fun h35 => ?_) (fun h35 => ?_)
        · replace h35 : (1 : Int) = 0 := h35
          exfalso; omega
        · replace h35 : (1 : Int) ≠ 0 := (show ¬ ((1 : Int) = 0) from h35)
          refine e_Ok.ps3 (x := (0, z1)) (y := (1, 275)) (z := (0, x)) (q := 43) 3 rfl ?_
          refine e_Ok.callV rfl (e_dq hd rfl) rfl rfl rfl rfl (c_411_f (mT_Fe f34 hT) (plC.fr hP hA (e_fr.mono f34 (fun c k q => fe_se q))).2.2.1 (by omega) (by omega) hF.2.2.1 hFp) (fun r36 w37 h38 => ?_)
          obtain ⟨q40, rfl⟩ := h38
          obtain ⟨z41, hz41⟩ : ∃ z, z = prd f z1.toNat := ⟨_, rfl⟩
          rw [← hz41] at q40; subst q40
          have z41b := (show 1 ≤ z41 ∧ z41 ≤ 1000 from by rw [hz41]; exact prd_bd (by omega) (by omega) hF.2.2.1 hFp)
          show e_Ok 20 elay ecode eI (d + 1) 416 (46, [(4, (0, z6)), (3, (0, z1)), (0, (1, 275)), (1, (0, x)), (2, (0, s))], [(0, z41), (0, x)], w30) _
          refine e_Ok.add (z := x + z41) rfl rfl (by omega) ?_
          refine e_Ok.ps0 (q := 51) 1 rfl ?_
          refine e_Ok.rets rfl rfl ?_
          have hyes := (show lnk w30 f x (x + z41) s ∧ ∀ y, lnk w f x y s → y = x + z41 from bs_up_yes (by omega) hsj hz41 (by rw [← hz6]; omega) q32c)
          have hin := hyes.1.1.in (n := m.toNat) (by omega) (fun k g1 g2 => (hF.2.2.1 k g1 (by omega)).1) (by rw [← hn]; exact hx)
          rw [← hn] at hin
          exact ⟨_, rfl, f34, q32f, q32g, q32d, Or.inr ⟨hin, hyes.1, hyes.2⟩⟩
      · refine e_Ok.nrm (q := 37) (st' := [(0, 0)]) rfl rfl ?_
        refine e_Ok.if1 rfl (fun h42 => ?_) (fun h42 => ?_)
        · replace h42 : (0 : Int) = 0 := h42
          refine e_Ok.ps1 (x := (0, (-1))) (q := 51) 1 rfl ?_
          refine e_Ok.rets rfl rfl ?_
          exact ⟨_, rfl, f34, q32f, q32g, q32d, Or.inl ⟨rfl, (bs_up_no2 (by omega) hsj q32d q32c)⟩⟩
        · replace h42 : (0 : Int) ≠ 0 := (show ¬ ((0 : Int) = 0) from h42)
          exfalso; omega
theorem no_9q_13 : ¬ mFn 275 15 := by unfold mFn mCl; omega
theorem no_9q_14 : ¬ mSe 275 15 := by unfold mSe mCl; omega
theorem no_9q_15 : ¬ mFn 275 110 := by unfold mFn mCl; omega
theorem no_9q_16 : ¬ mSe 275 110 := by unfold mSe mCl; omega
theorem no_9q_17 {k : Int} : ¬ mFn 286 k := by unfold mFn mCl; omega
theorem no_9q_18 {k : Int} : ¬ mSe 286 k := by unfold mSe mCl; omega
theorem no_9q_19 : ¬ mFn 275 106 := by unfold mFn mCl; omega
theorem no_9q_20 : ¬ mSe 275 106 := by unfold mSe mCl; omega
theorem no_9q_21 : ¬ mFn 275 107 := by unfold mFn mCl; omega
theorem no_9q_22 : ¬ mSe 275 107 := by unfold mSe mCl; omega
theorem no_9q_23 {k : Int} : ¬ mFn 349 k := by unfold mFn mCl; omega
theorem no_9q_24 {k : Int} : ¬ mFe 353 k := by unfold mFe mCl; omega
theorem no_9q_25 {k : Int} : ¬ mFe 349 k := by unfold mFe mCl; omega
theorem no_9q_26 : ¬ mSe 275 113 := by unfold mSe mCl; omega
theorem no_9q_27 : ¬ mFe 275 106 := by unfold mFe mCl; omega
theorem no_9q_28 {k : Int} : ¬ mFe 350 k := by unfold mFe mCl; omega
theorem no_9q_29 : ¬ mFe 275 107 := by unfold mFe mCl; omega
theorem no_9q_30 : ¬ mSe 275 108 := by unfold mSe mCl; omega
theorem no_9q_31 : ¬ mSe 275 109 := by unfold mSe mCl; omega
set_option maxHeartbeats 4000000 in
theorem c_417 {d : Nat} (hd : 30 ≤ d) {w : eW} (hT : e_Has mTy w) {a m : Int} {f : Int → Int} (hF : plF a m f) (hP : plC w a m f) {n : Int} (hn : n = prd f m.toNat) {x y : Int} (hx : 0 ≤ x ∧ x < n) (hy : 0 ≤ y ∧ y < n) : e_Ok 20 elay ecode eI d 417 (0, [(0, (1, 275)), (1, (0, x)), (2, (0, y)), (3, (0, n))], [], w) (fun r w' => ∃ z : Int, r = [(0, z)] ∧ e_fr mSe w w' ∧ (z = -1 ∨ ((0 ≤ z ∧ z ≤ 999) ∧ ∃ y', wlk w' f m n x z y'))) := by
  obtain ⟨d, rfl⟩ : ∃ e, d = e + 1 := ⟨d - 1, by omega⟩
  have hA := (e_Has.get hT (c := 275) (k := 10) (lo := 0) (hi := 4) (mt_o rfl) (by decide)).2
  have hFa := hF.1
  have hFm := hF.2.1
  have hFp := hF.2.2.2
  have hn1 : 1 ≤ n ∧ n ≤ 1000 := by rw [hn]; exact prd_bd (by omega) ⟨by omega, Int.le_refl m⟩ hF.2.2.1 hFp
  refine e_Ok.run (t' := (3, [(4, (0, 0)), (0, (1, 275)), (1, (0, x)), (2, (0, y)), (3, (0, n))], [], w)) 2 rfl ?_
  have hL1 : ∀ (nn : Nat) (y4 : Int) (v1 : eW), e_fr mSe w v1 ∧ (0 ≤ y4 ∧ y4 ≤ n) ∧ (∀ i, 0 ≤ i → i < y4 → v1 349 i = -1) ∧ e_kn v1 351 0 (y4 - 1) ∧ e_kn v1 352 0 (6 * y4 - 1) → 1001 - y4 < nn → e_Ok 20 elay ecode eI (d + 1) 417 (3, [(0, (1, 275)), (1, (0, x)), (2, (0, y)), (3, (0, n)), (4, (0, y4))], [], v1) (fun r w' => ∃ z : Int, r = [(0, z)] ∧ e_fr mSe w w' ∧ (z = -1 ∨ ((0 ≤ z ∧ z ≤ 999) ∧ ∃ y', wlk w' f m n x z y'))) := by
    intro nn
    induction nn with
    | zero => intro y4 v1 hj hm; obtain ⟨j3, j4, j5, j6, j7⟩ := hj; exfalso; omega
    | succ nn ih2 =>
      intro y4 v1 hj hm
      obtain ⟨j3, j4, j5, j6, j7⟩ := hj
      refine e_Ok.run (t' := (6, [(0, (1, 275)), (1, (0, x)), (2, (0, y)), (3, (0, n)), (4, (0, y4))], [(0, n), (0, y4)], v1)) 2 rfl ?_
      refine e_Ok.if2 rfl (fun h8 => ?_) (fun h8 => ?_)
      · replace h8 : (y4 : Int) ≥ n := h8
        refine e_Ok.ps2 (x := (0, x)) (y := (1, 275)) (q := 63) 2 rfl ?_
        refine e_Ok.callV rfl (e_dq hd rfl) rfl rfl rfl rfl (c_414 (e_dq hd rfl) (mT_Se j3 hT) hF (plC.fr hP hA j3) (n := n) (by omega) (by omega) (show e_kn v1 351 0 (n - 1) from fun i g1 g2 => j6 i g1 (by omega))) (fun r9 w10 h11 => ?_)
        obtain ⟨z13, rfl, z13b, q12, q12k⟩ := h11
        have f14 : e_fr mSe w w10 := e_fr.trans j3 (e_fr.mono q12 (fun c k q => by exact fn_se q))
        refine e_Ok.nrm (q := 66) (st' := [(0, z13)]) rfl rfl ?_
        refine e_Ok.if1 rfl (fun h15 => ?_) (fun h15 => ?_)
        · replace h15 : (z13 : Int) = 0 := h15
          refine e_Ok.ps1 (x := (0, (-1))) (q := 78) 1 rfl ?_
          refine e_Ok.rets rfl rfl ?_
          exact ⟨_, rfl, f14, Or.inl rfl⟩
        · replace h15 : (z13 : Int) ≠ 0 := (show ¬ ((z13 : Int) = 0) from h15)
          refine e_Ok.ps2 (x := (0, y)) (y := (1, 275)) (q := 71) 2 rfl ?_
          refine e_Ok.callV rfl (e_dq hd rfl) rfl rfl rfl rfl (c_414 (e_dq hd rfl) (mT_Se f14 hT) hF (plC.fr hP hA f14) (n := n) (by omega) (by omega) q12k) (fun r16 w17 h18 => ?_)
          obtain ⟨z20, rfl, z20b, q19, q19k⟩ := h18
          have f21 : e_fr mSe w w17 := e_fr.trans f14 (e_fr.mono q19 (fun c k q => by exact fn_se q))
          refine e_Ok.nrm (q := 74) (st' := [(0, z20)]) rfl rfl ?_
          refine e_Ok.if1 rfl (fun h22 => ?_) (fun h22 => ?_)
          · replace h22 : (z20 : Int) ≠ 0 := h22
            refine e_Ok.ps2 (x := (1, 275)) (y := (0, 2)) (q := 81) 2 rfl ?_
            refine e_Ok.getr (z := 286) rfl (el_o rfl) rfl (ef_o rfl) ((q19 275 15 no_9q_13).trans ((q12 275 15 no_9q_13).trans ((j3 275 15 no_9q_14).trans (e_Has.eq hT (mt_o rfl))))) ⟨by decide, by decide⟩ ?_
            refine e_Ok.ps1 (x := (1, 275)) (q := 85) 1 rfl ?_
            refine e_Ok.getf (z := a) rfl (el_o rfl) rfl (ef_o rfl) ((q19 275 110 no_9q_15).trans ((q12 275 110 no_9q_15).trans ((j3 275 110 no_9q_16).trans hP.1))) (by omega) ?_
            refine e_Ok.ald (z := m) rfl (el_o rfl) rfl (by omega) ((q19 286 a no_9q_17).trans ((q12 286 a no_9q_17).trans ((j3 286 a no_9q_18).trans hP.2.1))) (by omega) ?_
            refine e_Ok.mul (z := 2 * m) rfl rfl (by omega) ?_
            refine e_Ok.run (t' := (93, [(4, (0, 2 * m)), (0, (1, 275)), (1, (0, x)), (2, (0, y)), (3, (0, n))], [(1, 275)], w17)) 2 rfl ?_
            refine e_Ok.getr (z := 349) rfl (el_o rfl) rfl (ef_o rfl) ((q19 275 106 no_9q_19).trans ((q12 275 106 no_9q_19).trans ((j3 275 106 no_9q_20).trans (e_Has.eq hT (mt_o rfl))))) ⟨by decide, by decide⟩ ?_
            refine e_Ok.ps2 (x := (0, 0)) (y := (0, y)) (q := 98) 2 rfl ?_
            refine e_Ok.ast rfl (el_o rfl) rfl rfl (by omega) ?_
            generalize hw23 : e_up w17 349 y 0 = w23
            refine e_Ok.ps1 (x := (1, 275)) (q := 100) 1 rfl ?_
            refine e_Ok.getr (z := 350) rfl (el_o rfl) rfl (ef_o rfl) (e_uq hw23 (Or.inl (by decide)) ((q19 275 107 no_9q_21).trans ((q12 275 107 no_9q_21).trans ((j3 275 107 no_9q_22).trans (e_Has.eq hT (mt_o rfl)))))) ⟨by decide, by decide⟩ ?_
            refine e_Ok.ps2 (x := (0, y)) (y := (0, 0)) (q := 105) 2 rfl ?_
            refine e_Ok.ast rfl (el_o rfl) rfl rfl (by omega) ?_
            generalize hw25 : e_up w23 350 0 y = w25
            have hbf : bfs w25 f m n 1 := bfs.start (w := w17) (by omega) (fun i g1 g2 => Eq.trans ((fun e => Eq.trans (q19 349 e no_9q_23) ((fun e => Eq.trans (q12 349 e no_9q_23) ((fun e => rfl) e)) e)) i) (j5 i g1 (by omega))) hw23 hw25
            refine e_Ok.run (t' := (112, [(6, (0, 0)), (5, (0, 1)), (4, (0, 2 * m)), (0, (1, 275)), (1, (0, x)), (2, (0, y)), (3, (0, n))], [], w25)) 4 rfl ?_
            have hL27 : ∀ (nn : Nat) (y5 : Int) (y6 : Int) (v3 : eW), e_fr mSe w v3 ∧ e_kn v3 351 0 (n - 1) ∧ e_kn v3 352 0 (6 * n - 1) ∧ bfs v3 f m n y5 ∧ (0 ≤ y6 ∧ y6 ≤ y5 ∧ y5 ≤ 1000) → 1001 - y6 < nn → e_Ok 20 elay ecode eI (d + 1) 417 (112, [(0, (1, 275)), (1, (0, x)), (2, (0, y)), (3, (0, n)), (4, (0, 2 * m)), (5, (0, y5)), (6, (0, y6))], [], v3) (fun r w' => ∃ z : Int, r = [(0, z)] ∧ e_fr mSe w w' ∧ (z = -1 ∨ ((0 ≤ z ∧ z ≤ 999) ∧ ∃ y', wlk w' f m n x z y'))) := by
              intro nn
              induction nn with
              | zero => intro y5 y6 v3 hj hm; obtain ⟨j29, j30, j31, j32, j33⟩ := hj; exfalso; omega
              | succ nn ih28 =>
                intro y5 y6 v3 hj hm
                obtain ⟨j29, j30, j31, j32, j33⟩ := hj
                have hb3 := j32.1
                refine e_Ok.run (t' := (116, [(0, (1, 275)), (1, (0, x)), (2, (0, y)), (3, (0, n)), (4, (0, 2 * m)), (5, (0, y5)), (6, (0, y6))], [(0, y5), (0, y6)], v3)) 2 rfl ?_
                refine e_Ok.if2 rfl (fun h34 => ?_) (fun h34 => ?_)
                · replace h34 : (y6 : Int) ≥ y5 := h34
                  refine e_Ok.ps1 (x := (1, 275)) (q := 214) 1 rfl ?_
                  refine e_Ok.getr (z := 349) rfl (el_o rfl) rfl (ef_o rfl) ((j29 275 106 no_9q_20).trans (e_Has.eq hT (mt_o rfl))) ⟨by decide, by decide⟩ ?_
                  refine e_Ok.ps1 (x := (0, x)) (q := 218) 1 rfl ?_
                  have h35 := (bfs.d j32 (x := x) (by omega) (by omega))
                  refine e_Ok.ald (z := v3 349 x) rfl (el_o rfl) rfl (by omega) rfl (by omega) ?_
                  refine e_Ok.run (t' := (227, [(8, (0, 0)), (7, (0, x)), (6, (0, v3 349 x)), (0, (1, 275)), (1, (0, x)), (2, (0, y)), (3, (0, n)), (4, (0, 2 * m)), (5, (0, y5))], [], v3)) 5 rfl ?_
                  have hL36 : ∀ (nn : Nat) (n7 : Int) (y8 : Int) (v5 : eW), e_fr mSe w v5 ∧ e_kn v5 351 0 (n - 1) ∧ e_kn v5 352 0 (6 * n - 1) ∧ bfs v5 f m n y5 ∧ wlk v5 f m n x y8 n7 ∧ (0 ≤ n7 ∧ n7 < n) ∧ v5 349 n7 = v3 349 x - y8 ∧ (0 ≤ y8 ∧ (y8 ≤ v3 349 x ∨ y8 = 0)) → 1001 - y8 < nn → e_Ok 20 elay ecode eI (d + 1) 417 (227, [(0, (1, 275)), (1, (0, x)), (2, (0, y)), (3, (0, n)), (6, (0, v3 349 x)), (7, (0, n7)), (8, (0, y8))], [], v5) (fun r w' => ∃ z : Int, r = [(0, z)] ∧ e_fr mSe w w' ∧ (z = -1 ∨ ((0 ≤ z ∧ z ≤ 999) ∧ ∃ y', wlk w' f m n x z y'))) := by
                    intro nn
                    induction nn with
                    | zero => intro n7 y8 v5 hj hm; obtain ⟨j38, j40, j41, j42, j43, j44, j45, j46⟩ := hj; exfalso; omega
                    | succ nn ih37 =>
                      intro n7 y8 v5 hj hm
                      obtain ⟨j38, j40, j41, j42, j43, j44, j45, j46⟩ := hj
                      refine e_Ok.run (t' := (231, [(0, (1, 275)), (1, (0, x)), (2, (0, y)), (3, (0, n)), (6, (0, v3 349 x)), (7, (0, n7)), (8, (0, y8))], [(0, v3 349 x), (0, y8)], v5)) 2 rfl ?_
                      refine e_Ok.if2 rfl (fun h47 => ?_) (fun h47 => ?_)
                      · replace h47 : (y8 : Int) ≥ v3 349 x := h47
                        refine e_Ok.ps1 (x := (0, v3 349 x)) (q := 307) 1 rfl ?_
                        refine e_Ok.rets rfl rfl ?_
                        refine ⟨_, rfl, j38, Decidable.byCases (p := 0 ≤ v3 349 x) (fun g => Or.inr ⟨by omega, _, (show y8 = v3 349 x by omega) ▸ j43⟩) (fun g => Or.inl (by omega))⟩
                      · replace h47 : (y8 : Int) < v3 349 x := Int.not_le.mp (show ¬ ((y8 : Int) ≥ v3 349 x) from h47)
                        refine e_Ok.run (t' := (237, [(9, (0, 0)), (0, (1, 275)), (1, (0, x)), (2, (0, y)), (3, (0, n)), (6, (0, v3 349 x)), (7, (0, n7)), (8, (0, y8))], [], v5)) 2 rfl ?_
                        have hfn : 1 ≤ v5 349 n7 := by omega
                        have hm2 : 0 < 2 * m := by obtain ⟨yy, ss, -, q2, -⟩ := j42.2.2.2.2 n7 (by omega) (by omega) hfn; omega
                        refine e_Ok.ps3 (x := (0, 0)) (y := (0, n7)) (z := (1, 275)) (q := 241) 3 rfl ?_
                        refine e_Ok.callV rfl (e_dq hd rfl) rfl rfl rfl rfl (c_416 (e_dq hd rfl) (mT_Se j38 hT) hF (plC.fr hP hA j38) hn (by omega) (by omega) j40 j41) (fun r48 w49 h50 => ?_)
                        obtain ⟨z52, rfl, q51, q51f, q51g, q51d, q51c⟩ := h50
                        have f53 : e_fr mSe w w49 := e_fr.trans j38 (e_fr.mono q51 (fun c k q => by exact fe_se q))
                        have q51B := bfs.next j42 (fun c k g => q51 c k (by unfold mFe mCl; omega)) q51d
                        obtain ⟨rfl, q51c⟩ | ⟨q51r, q51l, q51c⟩ := q51c
                        · refine e_Ok.nrm (q := 244) (st' := [(0, (-1))]) rfl rfl ?_
                          refine e_Ok.run (t' := (246, [(10, (0, (-1))), (9, (0, 0)), (0, (1, 275)), (1, (0, x)), (2, (0, y)), (3, (0, n)), (6, (0, v3 349 x)), (7, (0, n7)), (8, (0, y8))], [], w49)) 1 rfl ?_
                          have hL54 : ∀ (nn : Nat) (y9 : Int) (b10 : Int) (v6 : eW), e_fr mSe w v6 ∧ e_kn v6 351 0 (n - 1) ∧ e_kn v6 352 0 (6 * n - 1) ∧ bfs v6 f m n y5 ∧ wlk v6 f m n x y8 n7 ∧ v6 349 n7 = v3 349 x - y8 ∧ nrr v6 f m n n7 y9 b10 ∧ (0 ≤ y9 ∧ y9 ≤ 12) ∧ ((b10 = -1 ∨ ((0 ≤ b10 ∧ b10 < n) ∧ lnx f n7 b10 y9))) → 13 - y9 < nn → e_Ok 20 elay ecode eI (d + 1) 417 (246, [(0, (1, 275)), (1, (0, x)), (2, (0, y)), (3, (0, n)), (6, (0, v3 349 x)), (7, (0, n7)), (8, (0, y8)), (9, (0, y9)), (10, (0, b10))], [], v6) (fun r w' => ∃ z : Int, r = [(0, z)] ∧ e_fr mSe w w' ∧ (z = -1 ∨ ((0 ≤ z ∧ z ≤ 999) ∧ ∃ y', wlk w' f m n x z y'))) := by
                            intro nn
                            induction nn with
                            | zero => intro y9 b10 v6 hj hm; obtain ⟨j56, j57, j58, j59, j60, j61, j62, j63, j64⟩ := hj; exfalso; omega
                            | succ nn ih55 =>
                              intro y9 b10 v6 hj hm
                              obtain ⟨j56, j57, j58, j59, j60, j61, j62, j63, j64⟩ := hj
                              have hbs := nrr.lt j62
                              refine e_Ok.run (t' := (248, [(0, (1, 275)), (1, (0, x)), (2, (0, y)), (3, (0, n)), (6, (0, v3 349 x)), (7, (0, n7)), (8, (0, y8)), (9, (0, y9)), (10, (0, b10))], [(0, b10)], v6)) 1 rfl ?_
                              refine e_Ok.if1 rfl (fun h65 => ?_) (fun h65 => ?_)
                              · replace h65 : (b10 : Int) < 0 := h65
                                refine e_Ok.inc (z := y9 + 1) rfl rfl (by first | with_reducible rfl | omega) (by omega) ?_
                                show e_Ok 20 elay ecode eI (d + 1) 417 (273, [(9, (0, y9 + 1)), (0, (1, 275)), (1, (0, x)), (2, (0, y)), (3, (0, n)), (6, (0, v3 349 x)), (7, (0, n7)), (8, (0, y8)), (10, (0, b10))], [], v6) _
                                have hnb : ¬ (0 ≤ b10 ∧ v6 349 b10 = v6 349 n7 - 1) := by omega
                                have hl2 := nrr.lt2 j62 hnb
                                refine e_Ok.ps3 (x := (0, y9 + 1)) (y := (0, n7)) (z := (1, 275)) (q := 278) 3 rfl ?_
                                refine e_Ok.callV rfl (e_dq hd rfl) rfl rfl rfl rfl (c_416 (e_dq hd rfl) (mT_Se j56 hT) hF (plC.fr hP hA j56) hn (by omega) (by omega) j57 j58) (fun r66 w67 h68 => ?_)
                                obtain ⟨z70, rfl, q69, q69f, q69g, q69d, q69c⟩ := h68
                                have f71 : e_fr mSe w w67 := e_fr.trans j56 (e_fr.mono q69 (fun c k q => by exact fe_se q))
                                have q69B := bfs.next j59 (fun c k g => q69 c k (by unfold mFe mCl; omega)) q69d
                                obtain ⟨rfl, q69c⟩ | ⟨q69r, q69l, q69c⟩ := q69c
                                · refine e_Ok.nrm (q := 281) (st' := [(0, (-1))]) rfl rfl ?_
                                  refine e_Ok.run (t' := (246, [(10, (0, (-1))), (9, (0, y9 + 1)), (0, (1, 275)), (1, (0, x)), (2, (0, y)), (3, (0, n)), (6, (0, v3 349 x)), (7, (0, n7)), (8, (0, y8))], [], w67)) 2 rfl ?_
                                  refine e_Ok.sub eAlk (e_sub_of rfl ?_) (ih55 (y9 + 1) (-1) w67 ⟨f71, q69f, q69g, q69B, (wlk.next j60 (fun e => Eq.trans (q69 353 e no_9q_24) ((fun e => rfl) e))), (Eq.trans ((fun e => Eq.trans (q69 349 e no_9q_25) ((fun e => rfl) e)) n7) j61), (nrr.more j62 hnb (fun e => Eq.trans (q69 349 e no_9q_25) ((fun e => rfl) e)) q69d (fun y h => absurd h (q69c y))), by omega, (Or.inl rfl)⟩ (by omega))
                                  exact ⟨rfl, rfl, rfl, rfl, rfl, rfl, rfl, rfl, rfl, trivial⟩
                                · refine e_Ok.nrm (q := 281) (st' := [(0, z70)]) rfl rfl ?_
                                  refine e_Ok.run (t' := (246, [(10, (0, z70)), (9, (0, y9 + 1)), (0, (1, 275)), (1, (0, x)), (2, (0, y)), (3, (0, n)), (6, (0, v3 349 x)), (7, (0, n7)), (8, (0, y8))], [], w67)) 2 rfl ?_
                                  refine e_Ok.sub eAlk (e_sub_of rfl ?_) (ih55 (y9 + 1) z70 w67 ⟨f71, q69f, q69g, q69B, (wlk.next j60 (fun e => Eq.trans (q69 353 e no_9q_24) ((fun e => rfl) e))), (Eq.trans ((fun e => Eq.trans (q69 349 e no_9q_25) ((fun e => rfl) e)) n7) j61), (nrr.more j62 hnb (fun e => Eq.trans (q69 349 e no_9q_25) ((fun e => rfl) e)) q69d q69c), by omega, (Or.inr ⟨q69r, q69l.1⟩)⟩ (by omega))
                                  exact ⟨rfl, rfl, rfl, rfl, rfl, rfl, rfl, rfl, rfl, trivial⟩
                              · replace h65 : (b10 : Int) ≥ 0 := Int.not_lt.mp (show ¬ ((b10 : Int) < 0) from h65)
                                have hb0 : (0 ≤ b10 ∧ b10 < n) := by rcases j64 with g | g; exact absurd g (by omega); exact g.1
                                refine e_Ok.ps1 (x := (1, 275)) (q := 252) 1 rfl ?_
                                refine e_Ok.getr (z := 349) rfl (el_o rfl) rfl (ef_o rfl) ((j56 275 106 no_9q_20).trans (e_Has.eq hT (mt_o rfl))) ⟨by decide, by decide⟩ ?_
                                refine e_Ok.ps1 (x := (0, b10)) (q := 257) 1 rfl ?_
                                have h72 := (bfs.d j59 (x := b10) (by omega) (by omega))
                                refine e_Ok.ald (z := v6 349 b10) rfl (el_o rfl) rfl (by omega) rfl (by omega) ?_
                                refine e_Ok.ps1 (x := (1, 275)) (q := 259) 1 rfl ?_
                                refine e_Ok.getr (z := 349) rfl (el_o rfl) rfl (ef_o rfl) ((j56 275 106 no_9q_20).trans (e_Has.eq hT (mt_o rfl))) ⟨by decide, by decide⟩ ?_
                                refine e_Ok.ps1 (x := (0, n7)) (q := 264) 1 rfl ?_
                                have h73 := (bfs.d j59 (x := n7) (by omega) (by omega))
                                refine e_Ok.ald (z := v6 349 n7) rfl (el_o rfl) rfl (by omega) rfl (by omega) ?_
                                refine e_Ok.ps1 (x := (0, 1)) (q := 266) 1 rfl ?_
                                refine e_Ok.sub' (z := v6 349 n7 - 1) rfl rfl (by omega) ?_
                                refine e_Ok.if2 rfl (fun h74 => ?_) (fun h74 => ?_)
                                · replace h74 : (v6 349 b10 : Int) = v6 349 n7 - 1 := h74
                                  have hbl : (0 ≤ b10 ∧ b10 < n) ∧ lnx f n7 b10 y9 := by rcases j64 with g | g; exact absurd g (by omega); exact g
                                  have hnl := nrr.lt j62
                                  refine e_Ok.ps1 (x := (1, 275)) (q := 287) 1 rfl ?_
                                  refine e_Ok.getr (z := 353) rfl (el_o rfl) rfl (ef_o rfl) ((j56 275 113 no_9q_26).trans (e_Has.eq hT (mt_o rfl))) ⟨by decide, by decide⟩ ?_
                                  refine e_Ok.ps2 (x := (0, y9)) (y := (0, y8)) (q := 294) 2 rfl ?_
                                  refine e_Ok.ast rfl (el_o rfl) rfl rfl (by omega) ?_
                                  generalize hw75 : e_up v6 353 y8 y9 = w75
                                  refine e_Ok.run (t' := (299, [(7, (0, b10)), (0, (1, 275)), (1, (0, x)), (2, (0, y)), (3, (0, n)), (6, (0, v3 349 x)), (8, (0, y8)), (9, (0, y9)), (10, (0, b10))], [], w75)) 2 rfl ?_
                                  refine e_Ok.inc (z := y8 + 1) rfl rfl (by first | with_reducible rfl | omega) (by omega) ?_
                                  show e_Ok 20 elay ecode eI (d + 1) 417 (302, [(8, (0, y8 + 1)), (7, (0, b10)), (0, (1, 275)), (1, (0, x)), (2, (0, y)), (3, (0, n)), (6, (0, v3 349 x)), (9, (0, y9)), (10, (0, b10))], [], w75) _
                                  refine e_Ok.ps0 (q := 227) 1 rfl ?_
                                  refine e_Ok.sub eAlk (e_sub_of rfl ?_) (ih37 b10 (y8 + 1) w75 ⟨(show e_fr mSe w w75 from e_fr.up j56 hw75 (by first | exact Or.inr (Or.inr ⟨(by decide), (by decide)⟩) | (unfold mSe mCl; omega))), (e_kn.oth j57 hw75 (by decide)), (e_kn.oth j58 hw75 (by decide)), (bfs.next j59 (fun c k g => by rw [← hw75]; exact e_up_ne _ _ (Or.inl (by omega))) (edK.same (fun e => by rw [← hw75]; exact e_up_ne _ _ (Or.inl (by decide))))), (wlk.add j60 (by omega) (by omega) hbl.2 hbl.1 hw75), by omega, (Eq.trans (show w75 349 b10 = v6 349 b10 from by rw [← hw75]; exact e_up_ne _ _ (Or.inl (by decide))) (by omega)), by omega⟩ (by omega))
                                  exact ⟨rfl, rfl, rfl, rfl, rfl, rfl, rfl, trivial⟩
                                · replace h74 : (v6 349 b10 : Int) ≠ v6 349 n7 - 1 := (show ¬ ((v6 349 b10 : Int) = v6 349 n7 - 1) from h74)
                                  refine e_Ok.inc (z := y9 + 1) rfl rfl (by first | with_reducible rfl | omega) (by omega) ?_
                                  show e_Ok 20 elay ecode eI (d + 1) 417 (273, [(9, (0, y9 + 1)), (0, (1, 275)), (1, (0, x)), (2, (0, y)), (3, (0, n)), (6, (0, v3 349 x)), (7, (0, n7)), (8, (0, y8)), (10, (0, b10))], [], v6) _
                                  have hnb : ¬ (0 ≤ b10 ∧ v6 349 b10 = v6 349 n7 - 1) := by omega
                                  have hl2 := nrr.lt2 j62 hnb
                                  refine e_Ok.ps3 (x := (0, y9 + 1)) (y := (0, n7)) (z := (1, 275)) (q := 278) 3 rfl ?_
                                  refine e_Ok.callV rfl (e_dq hd rfl) rfl rfl rfl rfl (c_416 (e_dq hd rfl) (mT_Se j56 hT) hF (plC.fr hP hA j56) hn (by omega) (by omega) j57 j58) (fun r77 w78 h79 => ?_)
                                  obtain ⟨z81, rfl, q80, q80f, q80g, q80d, q80c⟩ := h79
                                  have f82 : e_fr mSe w w78 := e_fr.trans j56 (e_fr.mono q80 (fun c k q => by exact fe_se q))
                                  have q80B := bfs.next j59 (fun c k g => q80 c k (by unfold mFe mCl; omega)) q80d
                                  obtain ⟨rfl, q80c⟩ | ⟨q80r, q80l, q80c⟩ := q80c
                                  · refine e_Ok.nrm (q := 281) (st' := [(0, (-1))]) rfl rfl ?_
                                    refine e_Ok.run (t' := (246, [(10, (0, (-1))), (9, (0, y9 + 1)), (0, (1, 275)), (1, (0, x)), (2, (0, y)), (3, (0, n)), (6, (0, v3 349 x)), (7, (0, n7)), (8, (0, y8))], [], w78)) 2 rfl ?_
                                    refine e_Ok.sub eAlk (e_sub_of rfl ?_) (ih55 (y9 + 1) (-1) w78 ⟨f82, q80f, q80g, q80B, (wlk.next j60 (fun e => Eq.trans (q80 353 e no_9q_24) ((fun e => rfl) e))), (Eq.trans ((fun e => Eq.trans (q80 349 e no_9q_25) ((fun e => rfl) e)) n7) j61), (nrr.more j62 hnb (fun e => Eq.trans (q80 349 e no_9q_25) ((fun e => rfl) e)) q80d (fun y h => absurd h (q80c y))), by omega, (Or.inl rfl)⟩ (by omega))
                                    exact ⟨rfl, rfl, rfl, rfl, rfl, rfl, rfl, rfl, rfl, trivial⟩
                                  · refine e_Ok.nrm (q := 281) (st' := [(0, z81)]) rfl rfl ?_
                                    refine e_Ok.run (t' := (246, [(10, (0, z81)), (9, (0, y9 + 1)), (0, (1, 275)), (1, (0, x)), (2, (0, y)), (3, (0, n)), (6, (0, v3 349 x)), (7, (0, n7)), (8, (0, y8))], [], w78)) 2 rfl ?_
                                    refine e_Ok.sub eAlk (e_sub_of rfl ?_) (ih55 (y9 + 1) z81 w78 ⟨f82, q80f, q80g, q80B, (wlk.next j60 (fun e => Eq.trans (q80 353 e no_9q_24) ((fun e => rfl) e))), (Eq.trans ((fun e => Eq.trans (q80 349 e no_9q_25) ((fun e => rfl) e)) n7) j61), (nrr.more j62 hnb (fun e => Eq.trans (q80 349 e no_9q_25) ((fun e => rfl) e)) q80d q80c), by omega, (Or.inr ⟨q80r, q80l.1⟩)⟩ (by omega))
                                    exact ⟨rfl, rfl, rfl, rfl, rfl, rfl, rfl, rfl, rfl, trivial⟩
                          refine e_Ok.sub eAlk (e_sub_of rfl ?_) (hL54 (13 + 1 : Int).toNat 0 (-1) w49 ⟨f53, q51f, q51g, q51B, (wlk.next j43 (fun e => Eq.trans (q51 353 e no_9q_24) ((fun e => rfl) e))), (Eq.trans ((fun e => Eq.trans (q51 349 e no_9q_25) ((fun e => rfl) e)) n7) j45), (nrr.of j42 (by omega) hfn (fun e => Eq.trans (q51 349 e no_9q_25) ((fun e => rfl) e)) q51d (fun y h => absurd h (q51c y))), by omega, (Or.inl rfl)⟩ (by omega))
                          exact ⟨rfl, rfl, rfl, rfl, rfl, rfl, rfl, rfl, rfl, trivial⟩
                        · refine e_Ok.nrm (q := 244) (st' := [(0, z52)]) rfl rfl ?_
                          refine e_Ok.run (t' := (246, [(10, (0, z52)), (9, (0, 0)), (0, (1, 275)), (1, (0, x)), (2, (0, y)), (3, (0, n)), (6, (0, v3 349 x)), (7, (0, n7)), (8, (0, y8))], [], w49)) 1 rfl ?_
                          have hL83 : ∀ (nn : Nat) (y9 : Int) (b10 : Int) (v6 : eW), e_fr mSe w v6 ∧ e_kn v6 351 0 (n - 1) ∧ e_kn v6 352 0 (6 * n - 1) ∧ bfs v6 f m n y5 ∧ wlk v6 f m n x y8 n7 ∧ v6 349 n7 = v3 349 x - y8 ∧ nrr v6 f m n n7 y9 b10 ∧ (0 ≤ y9 ∧ y9 ≤ 12) ∧ ((b10 = -1 ∨ ((0 ≤ b10 ∧ b10 < n) ∧ lnx f n7 b10 y9))) → 13 - y9 < nn → e_Ok 20 elay ecode eI (d + 1) 417 (246, [(0, (1, 275)), (1, (0, x)), (2, (0, y)), (3, (0, n)), (6, (0, v3 349 x)), (7, (0, n7)), (8, (0, y8)), (9, (0, y9)), (10, (0, b10))], [], v6) (fun r w' => ∃ z : Int, r = [(0, z)] ∧ e_fr mSe w w' ∧ (z = -1 ∨ ((0 ≤ z ∧ z ≤ 999) ∧ ∃ y', wlk w' f m n x z y'))) := by
                            intro nn
                            induction nn with
                            | zero => intro y9 b10 v6 hj hm; obtain ⟨j85, j86, j87, j88, j89, j90, j91, j92, j93⟩ := hj; exfalso; omega
                            | succ nn ih84 =>
                              intro y9 b10 v6 hj hm
                              obtain ⟨j85, j86, j87, j88, j89, j90, j91, j92, j93⟩ := hj
                              have hbs := nrr.lt j91
                              refine e_Ok.run (t' := (248, [(0, (1, 275)), (1, (0, x)), (2, (0, y)), (3, (0, n)), (6, (0, v3 349 x)), (7, (0, n7)), (8, (0, y8)), (9, (0, y9)), (10, (0, b10))], [(0, b10)], v6)) 1 rfl ?_
                              refine e_Ok.if1 rfl (fun h94 => ?_) (fun h94 => ?_)
                              · replace h94 : (b10 : Int) < 0 := h94
                                refine e_Ok.inc (z := y9 + 1) rfl rfl (by first | with_reducible rfl | omega) (by omega) ?_
                                show e_Ok 20 elay ecode eI (d + 1) 417 (273, [(9, (0, y9 + 1)), (0, (1, 275)), (1, (0, x)), (2, (0, y)), (3, (0, n)), (6, (0, v3 349 x)), (7, (0, n7)), (8, (0, y8)), (10, (0, b10))], [], v6) _
                                have hnb : ¬ (0 ≤ b10 ∧ v6 349 b10 = v6 349 n7 - 1) := by omega
                                have hl2 := nrr.lt2 j91 hnb
                                refine e_Ok.ps3 (x := (0, y9 + 1)) (y := (0, n7)) (z := (1, 275)) (q := 278) 3 rfl ?_
                                refine e_Ok.callV rfl (e_dq hd rfl) rfl rfl rfl rfl (c_416 (e_dq hd rfl) (mT_Se j85 hT) hF (plC.fr hP hA j85) hn (by omega) (by omega) j86 j87) (fun r95 w101 h103 => ?_)
                                obtain ⟨z105, rfl, q104, q104f, q104g, q104d, q104c⟩ := h103
                                have f106 : e_fr mSe w w101 := e_fr.trans j85 (e_fr.mono q104 (fun c k q => by exact fe_se q))
                                have q104B := bfs.next j88 (fun c k g => q104 c k (by unfold mFe mCl; omega)) q104d
                                obtain ⟨rfl, q104c⟩ | ⟨q104r, q104l, q104c⟩ := q104c
                                · refine e_Ok.nrm (q := 281) (st' := [(0, (-1))]) rfl rfl ?_
                                  refine e_Ok.run (t' := (246, [(10, (0, (-1))), (9, (0, y9 + 1)), (0, (1, 275)), (1, (0, x)), (2, (0, y)), (3, (0, n)), (6, (0, v3 349 x)), (7, (0, n7)), (8, (0, y8))], [], w101)) 2 rfl ?_
                                  refine e_Ok.sub eAlk (e_sub_of rfl ?_) (ih84 (y9 + 1) (-1) w101 ⟨f106, q104f, q104g, q104B, (wlk.next j89 (fun e => Eq.trans (q104 353 e no_9q_24) ((fun e => rfl) e))), (Eq.trans ((fun e => Eq.trans (q104 349 e no_9q_25) ((fun e => rfl) e)) n7) j90), (nrr.more j91 hnb (fun e => Eq.trans (q104 349 e no_9q_25) ((fun e => rfl) e)) q104d (fun y h => absurd h (q104c y))), by omega, (Or.inl rfl)⟩ (by omega))
                                  exact ⟨rfl, rfl, rfl, rfl, rfl, rfl, rfl, rfl, rfl, trivial⟩
                                · refine e_Ok.nrm (q := 281) (st' := [(0, z105)]) rfl rfl ?_
                                  refine e_Ok.run (t' := (246, [(10, (0, z105)), (9, (0, y9 + 1)), (0, (1, 275)), (1, (0, x)), (2, (0, y)), (3, (0, n)), (6, (0, v3 349 x)), (7, (0, n7)), (8, (0, y8))], [], w101)) 2 rfl ?_
                                  refine e_Ok.sub eAlk (e_sub_of rfl ?_) (ih84 (y9 + 1) z105 w101 ⟨f106, q104f, q104g, q104B, (wlk.next j89 (fun e => Eq.trans (q104 353 e no_9q_24) ((fun e => rfl) e))), (Eq.trans ((fun e => Eq.trans (q104 349 e no_9q_25) ((fun e => rfl) e)) n7) j90), (nrr.more j91 hnb (fun e => Eq.trans (q104 349 e no_9q_25) ((fun e => rfl) e)) q104d q104c), by omega, (Or.inr ⟨q104r, q104l.1⟩)⟩ (by omega))
                                  exact ⟨rfl, rfl, rfl, rfl, rfl, rfl, rfl, rfl, rfl, trivial⟩
                              · replace h94 : (b10 : Int) ≥ 0 := Int.not_lt.mp (show ¬ ((b10 : Int) < 0) from h94)
                                have hb0 : (0 ≤ b10 ∧ b10 < n) := by rcases j93 with g | g; exact absurd g (by omega); exact g.1
                                refine e_Ok.ps1 (x := (1, 275)) (q := 252) 1 rfl ?_
                                refine e_Ok.getr (z := 349) rfl (el_o rfl) rfl (ef_o rfl) ((j85 275 106 no_9q_20).trans (e_Has.eq hT (mt_o rfl))) ⟨by decide, by decide⟩ ?_
                                refine e_Ok.ps1 (x := (0, b10)) (q := 257) 1 rfl ?_
                                have h107 := (bfs.d j88 (x := b10) (by omega) (by omega))
                                refine e_Ok.ald (z := v6 349 b10) rfl (el_o rfl) rfl (by omega) rfl (by omega) ?_
                                refine e_Ok.ps1 (x := (1, 275)) (q := 259) 1 rfl ?_
                                refine e_Ok.getr (z := 349) rfl (el_o rfl) rfl (ef_o rfl) ((j85 275 106 no_9q_20).trans (e_Has.eq hT (mt_o rfl))) ⟨by decide, by decide⟩ ?_
                                refine e_Ok.ps1 (x := (0, n7)) (q := 264) 1 rfl ?_
                                have h108 := (bfs.d j88 (x := n7) (by omega) (by omega))
                                refine e_Ok.ald (z := v6 349 n7) rfl (el_o rfl) rfl (by omega) rfl (by omega) ?_
                                refine e_Ok.ps1 (x := (0, 1)) (q := 266) 1 rfl ?_
                                refine e_Ok.sub' (z := v6 349 n7 - 1) rfl rfl (by omega) ?_
                                refine e_Ok.if2 rfl (fun h109 => ?_) (fun h109 => ?_)
                                · replace h109 : (v6 349 b10 : Int) = v6 349 n7 - 1 := h109
                                  have hbl : (0 ≤ b10 ∧ b10 < n) ∧ lnx f n7 b10 y9 := by rcases j93 with g | g; exact absurd g (by omega); exact g
                                  have hnl := nrr.lt j91
                                  refine e_Ok.ps1 (x := (1, 275)) (q := 287) 1 rfl ?_
                                  refine e_Ok.getr (z := 353) rfl (el_o rfl) rfl (ef_o rfl) ((j85 275 113 no_9q_26).trans (e_Has.eq hT (mt_o rfl))) ⟨by decide, by decide⟩ ?_
                                  refine e_Ok.ps2 (x := (0, y9)) (y := (0, y8)) (q := 294) 2 rfl ?_
                                  refine e_Ok.ast rfl (el_o rfl) rfl rfl (by omega) ?_
                                  generalize hw110 : e_up v6 353 y8 y9 = w110
                                  refine e_Ok.run (t' := (299, [(7, (0, b10)), (0, (1, 275)), (1, (0, x)), (2, (0, y)), (3, (0, n)), (6, (0, v3 349 x)), (8, (0, y8)), (9, (0, y9)), (10, (0, b10))], [], w110)) 2 rfl ?_
                                  refine e_Ok.inc (z := y8 + 1) rfl rfl (by first | with_reducible rfl | omega) (by omega) ?_
                                  show e_Ok 20 elay ecode eI (d + 1) 417 (302, [(8, (0, y8 + 1)), (7, (0, b10)), (0, (1, 275)), (1, (0, x)), (2, (0, y)), (3, (0, n)), (6, (0, v3 349 x)), (9, (0, y9)), (10, (0, b10))], [], w110) _
                                  refine e_Ok.ps0 (q := 227) 1 rfl ?_
                                  refine e_Ok.sub eAlk (e_sub_of rfl ?_) (ih37 b10 (y8 + 1) w110 ⟨(show e_fr mSe w w110 from e_fr.up j85 hw110 (by first | exact Or.inr (Or.inr ⟨(by decide), (by decide)⟩) | (unfold mSe mCl; omega))), (e_kn.oth j86 hw110 (by decide)), (e_kn.oth j87 hw110 (by decide)), (bfs.next j88 (fun c k g => by rw [← hw110]; exact e_up_ne _ _ (Or.inl (by omega))) (edK.same (fun e => by rw [← hw110]; exact e_up_ne _ _ (Or.inl (by decide))))), (wlk.add j89 (by omega) (by omega) hbl.2 hbl.1 hw110), by omega, (Eq.trans (show w110 349 b10 = v6 349 b10 from by rw [← hw110]; exact e_up_ne _ _ (Or.inl (by decide))) (by omega)), by omega⟩ (by omega))
                                  exact ⟨rfl, rfl, rfl, rfl, rfl, rfl, rfl, trivial⟩
                                · replace h109 : (v6 349 b10 : Int) ≠ v6 349 n7 - 1 := (show ¬ ((v6 349 b10 : Int) = v6 349 n7 - 1) from h109)
                                  refine e_Ok.inc (z := y9 + 1) rfl rfl (by first | with_reducible rfl | omega) (by omega) ?_
                                  show e_Ok 20 elay ecode eI (d + 1) 417 (273, [(9, (0, y9 + 1)), (0, (1, 275)), (1, (0, x)), (2, (0, y)), (3, (0, n)), (6, (0, v3 349 x)), (7, (0, n7)), (8, (0, y8)), (10, (0, b10))], [], v6) _
                                  have hnb : ¬ (0 ≤ b10 ∧ v6 349 b10 = v6 349 n7 - 1) := by omega
                                  have hl2 := nrr.lt2 j91 hnb
                                  refine e_Ok.ps3 (x := (0, y9 + 1)) (y := (0, n7)) (z := (1, 275)) (q := 278) 3 rfl ?_
                                  refine e_Ok.callV rfl (e_dq hd rfl) rfl rfl rfl rfl (c_416 (e_dq hd rfl) (mT_Se j85 hT) hF (plC.fr hP hA j85) hn (by omega) (by omega) j86 j87) (fun r112 w113 h114 => ?_)
                                  obtain ⟨z116, rfl, q115, q115f, q115g, q115d, q115c⟩ := h114
                                  have f117 : e_fr mSe w w113 := e_fr.trans j85 (e_fr.mono q115 (fun c k q => by exact fe_se q))
                                  have q115B := bfs.next j88 (fun c k g => q115 c k (by unfold mFe mCl; omega)) q115d
                                  obtain ⟨rfl, q115c⟩ | ⟨q115r, q115l, q115c⟩ := q115c
                                  · refine e_Ok.nrm (q := 281) (st' := [(0, (-1))]) rfl rfl ?_
                                    refine e_Ok.run (t' := (246, [(10, (0, (-1))), (9, (0, y9 + 1)), (0, (1, 275)), (1, (0, x)), (2, (0, y)), (3, (0, n)), (6, (0, v3 349 x)), (7, (0, n7)), (8, (0, y8))], [], w113)) 2 rfl ?_
                                    refine e_Ok.sub eAlk (e_sub_of rfl ?_) (ih84 (y9 + 1) (-1) w113 ⟨f117, q115f, q115g, q115B, (wlk.next j89 (fun e => Eq.trans (q115 353 e no_9q_24) ((fun e => rfl) e))), (Eq.trans ((fun e => Eq.trans (q115 349 e no_9q_25) ((fun e => rfl) e)) n7) j90), (nrr.more j91 hnb (fun e => Eq.trans (q115 349 e no_9q_25) ((fun e => rfl) e)) q115d (fun y h => absurd h (q115c y))), by omega, (Or.inl rfl)⟩ (by omega))
                                    exact ⟨rfl, rfl, rfl, rfl, rfl, rfl, rfl, rfl, rfl, trivial⟩
                                  · refine e_Ok.nrm (q := 281) (st' := [(0, z116)]) rfl rfl ?_
                                    refine e_Ok.run (t' := (246, [(10, (0, z116)), (9, (0, y9 + 1)), (0, (1, 275)), (1, (0, x)), (2, (0, y)), (3, (0, n)), (6, (0, v3 349 x)), (7, (0, n7)), (8, (0, y8))], [], w113)) 2 rfl ?_
                                    refine e_Ok.sub eAlk (e_sub_of rfl ?_) (ih84 (y9 + 1) z116 w113 ⟨f117, q115f, q115g, q115B, (wlk.next j89 (fun e => Eq.trans (q115 353 e no_9q_24) ((fun e => rfl) e))), (Eq.trans ((fun e => Eq.trans (q115 349 e no_9q_25) ((fun e => rfl) e)) n7) j90), (nrr.more j91 hnb (fun e => Eq.trans (q115 349 e no_9q_25) ((fun e => rfl) e)) q115d q115c), by omega, (Or.inr ⟨q115r, q115l.1⟩)⟩ (by omega))
                                    exact ⟨rfl, rfl, rfl, rfl, rfl, rfl, rfl, rfl, rfl, trivial⟩
                          refine e_Ok.sub eAlk (e_sub_of rfl ?_) (hL83 (13 + 1 : Int).toNat 0 z52 w49 ⟨f53, q51f, q51g, q51B, (wlk.next j43 (fun e => Eq.trans (q51 353 e no_9q_24) ((fun e => rfl) e))), (Eq.trans ((fun e => Eq.trans (q51 349 e no_9q_25) ((fun e => rfl) e)) n7) j45), (nrr.of j42 (by omega) hfn (fun e => Eq.trans (q51 349 e no_9q_25) ((fun e => rfl) e)) q51d q51c), by omega, (Or.inr ⟨q51r, q51l.1⟩)⟩ (by omega))
                          exact ⟨rfl, rfl, rfl, rfl, rfl, rfl, rfl, rfl, rfl, trivial⟩
                  refine e_Ok.sub eAlk (e_sub_of rfl ?_) (hL36 (1001 + 1 : Int).toNat x 0 v3 ⟨j29, j30, j31, j32, (wlk.zero _ _ _ _ _), by omega, by omega, by omega⟩ (by omega))
                  exact ⟨rfl, rfl, rfl, rfl, rfl, rfl, rfl, trivial⟩
                · replace h34 : (y6 : Int) < y5 := Int.not_le.mp (show ¬ ((y6 : Int) ≥ y5) from h34)
                  refine e_Ok.ps1 (x := (1, 275)) (q := 120) 1 rfl ?_
                  refine e_Ok.getr (z := 349) rfl (el_o rfl) rfl (ef_o rfl) ((j29 275 106 no_9q_20).trans (e_Has.eq hT (mt_o rfl))) ⟨by decide, by decide⟩ ?_
                  refine e_Ok.ps1 (x := (0, x)) (q := 124) 1 rfl ?_
                  have h118 := (bfs.d j32 (x := x) (by omega) (by omega))
                  refine e_Ok.ald (z := v3 349 x) rfl (el_o rfl) rfl (by omega) rfl (by omega) ?_
                  refine e_Ok.if1 rfl (fun h119 => ?_) (fun h119 => ?_)
                  · replace h119 : (v3 349 x : Int) ≥ 0 := h119
                    refine e_Ok.ps1 (x := (1, 275)) (q := 214) 1 rfl ?_
                    refine e_Ok.getr (z := 349) rfl (el_o rfl) rfl (ef_o rfl) ((j29 275 106 no_9q_20).trans (e_Has.eq hT (mt_o rfl))) ⟨by decide, by decide⟩ ?_
                    refine e_Ok.ps1 (x := (0, x)) (q := 218) 1 rfl ?_
                    refine e_Ok.ald (z := v3 349 x) rfl (el_o rfl) rfl (by omega) rfl (by omega) ?_
                    refine e_Ok.run (t' := (227, [(8, (0, 0)), (7, (0, x)), (6, (0, v3 349 x)), (0, (1, 275)), (1, (0, x)), (2, (0, y)), (3, (0, n)), (4, (0, 2 * m)), (5, (0, y5))], [], v3)) 5 rfl ?_
                    have hL120 : ∀ (nn : Nat) (n7 : Int) (y8 : Int) (v5 : eW), e_fr mSe w v5 ∧ e_kn v5 351 0 (n - 1) ∧ e_kn v5 352 0 (6 * n - 1) ∧ bfs v5 f m n y5 ∧ wlk v5 f m n x y8 n7 ∧ (0 ≤ n7 ∧ n7 < n) ∧ v5 349 n7 = v3 349 x - y8 ∧ (0 ≤ y8 ∧ (y8 ≤ v3 349 x ∨ y8 = 0)) → 1001 - y8 < nn → e_Ok 20 elay ecode eI (d + 1) 417 (227, [(0, (1, 275)), (1, (0, x)), (2, (0, y)), (3, (0, n)), (6, (0, v3 349 x)), (7, (0, n7)), (8, (0, y8))], [], v5) (fun r w' => ∃ z : Int, r = [(0, z)] ∧ e_fr mSe w w' ∧ (z = -1 ∨ ((0 ≤ z ∧ z ≤ 999) ∧ ∃ y', wlk w' f m n x z y'))) := by
                      intro nn
                      induction nn with
                      | zero => intro n7 y8 v5 hj hm; obtain ⟨j122, j123, j124, j125, j126, j127, j128, j129⟩ := hj; exfalso; omega
                      | succ nn ih121 =>
                        intro n7 y8 v5 hj hm
                        obtain ⟨j122, j123, j124, j125, j126, j127, j128, j129⟩ := hj
                        refine e_Ok.run (t' := (231, [(0, (1, 275)), (1, (0, x)), (2, (0, y)), (3, (0, n)), (6, (0, v3 349 x)), (7, (0, n7)), (8, (0, y8))], [(0, v3 349 x), (0, y8)], v5)) 2 rfl ?_
                        refine e_Ok.if2 rfl (fun h130 => ?_) (fun h130 => ?_)
                        · replace h130 : (y8 : Int) ≥ v3 349 x := h130
                          refine e_Ok.ps1 (x := (0, v3 349 x)) (q := 307) 1 rfl ?_
                          refine e_Ok.rets rfl rfl ?_
                          refine ⟨_, rfl, j122, Decidable.byCases (p := 0 ≤ v3 349 x) (fun g => Or.inr ⟨by omega, _, (show y8 = v3 349 x by omega) ▸ j126⟩) (fun g => Or.inl (by omega))⟩
                        · replace h130 : (y8 : Int) < v3 349 x := Int.not_le.mp (show ¬ ((y8 : Int) ≥ v3 349 x) from h130)
                          refine e_Ok.run (t' := (237, [(9, (0, 0)), (0, (1, 275)), (1, (0, x)), (2, (0, y)), (3, (0, n)), (6, (0, v3 349 x)), (7, (0, n7)), (8, (0, y8))], [], v5)) 2 rfl ?_
                          have hfn : 1 ≤ v5 349 n7 := by omega
                          have hm2 : 0 < 2 * m := by obtain ⟨yy, ss, -, q2, -⟩ := j125.2.2.2.2 n7 (by omega) (by omega) hfn; omega
                          refine e_Ok.ps3 (x := (0, 0)) (y := (0, n7)) (z := (1, 275)) (q := 241) 3 rfl ?_
                          refine e_Ok.callV rfl (e_dq hd rfl) rfl rfl rfl rfl (c_416 (e_dq hd rfl) (mT_Se j122 hT) hF (plC.fr hP hA j122) hn (by omega) (by omega) j123 j124) (fun r131 w132 h133 => ?_)
                          obtain ⟨z135, rfl, q134, q134f, q134g, q134d, q134c⟩ := h133
                          have f136 : e_fr mSe w w132 := e_fr.trans j122 (e_fr.mono q134 (fun c k q => by exact fe_se q))
                          have q134B := bfs.next j125 (fun c k g => q134 c k (by unfold mFe mCl; omega)) q134d
                          obtain ⟨rfl, q134c⟩ | ⟨q134r, q134l, q134c⟩ := q134c
                          · refine e_Ok.nrm (q := 244) (st' := [(0, (-1))]) rfl rfl ?_
                            refine e_Ok.run (t' := (246, [(10, (0, (-1))), (9, (0, 0)), (0, (1, 275)), (1, (0, x)), (2, (0, y)), (3, (0, n)), (6, (0, v3 349 x)), (7, (0, n7)), (8, (0, y8))], [], w132)) 1 rfl ?_
                            have hL137 : ∀ (nn : Nat) (y9 : Int) (b10 : Int) (v6 : eW), e_fr mSe w v6 ∧ e_kn v6 351 0 (n - 1) ∧ e_kn v6 352 0 (6 * n - 1) ∧ bfs v6 f m n y5 ∧ wlk v6 f m n x y8 n7 ∧ v6 349 n7 = v3 349 x - y8 ∧ nrr v6 f m n n7 y9 b10 ∧ (0 ≤ y9 ∧ y9 ≤ 12) ∧ ((b10 = -1 ∨ ((0 ≤ b10 ∧ b10 < n) ∧ lnx f n7 b10 y9))) → 13 - y9 < nn → e_Ok 20 elay ecode eI (d + 1) 417 (246, [(0, (1, 275)), (1, (0, x)), (2, (0, y)), (3, (0, n)), (6, (0, v3 349 x)), (7, (0, n7)), (8, (0, y8)), (9, (0, y9)), (10, (0, b10))], [], v6) (fun r w' => ∃ z : Int, r = [(0, z)] ∧ e_fr mSe w w' ∧ (z = -1 ∨ ((0 ≤ z ∧ z ≤ 999) ∧ ∃ y', wlk w' f m n x z y'))) := by
                              intro nn
                              induction nn with
                              | zero => intro y9 b10 v6 hj hm; obtain ⟨j139, j140, j141, j142, j143, j144, j145, j146, j147⟩ := hj; exfalso; omega
                              | succ nn ih138 =>
                                intro y9 b10 v6 hj hm
                                obtain ⟨j139, j140, j141, j142, j143, j144, j145, j146, j147⟩ := hj
                                have hbs := nrr.lt j145
                                refine e_Ok.run (t' := (248, [(0, (1, 275)), (1, (0, x)), (2, (0, y)), (3, (0, n)), (6, (0, v3 349 x)), (7, (0, n7)), (8, (0, y8)), (9, (0, y9)), (10, (0, b10))], [(0, b10)], v6)) 1 rfl ?_
                                refine e_Ok.if1 rfl (fun h148 => ?_) (fun h148 => ?_)
                                · replace h148 : (b10 : Int) < 0 := h148
                                  refine e_Ok.inc (z := y9 + 1) rfl rfl (by first | with_reducible rfl | omega) (by omega) ?_
                                  show e_Ok 20 elay ecode eI (d + 1) 417 (273, [(9, (0, y9 + 1)), (0, (1, 275)), (1, (0, x)), (2, (0, y)), (3, (0, n)), (6, (0, v3 349 x)), (7, (0, n7)), (8, (0, y8)), (10, (0, b10))], [], v6) _
                                  have hnb : ¬ (0 ≤ b10 ∧ v6 349 b10 = v6 349 n7 - 1) := by omega
                                  have hl2 := nrr.lt2 j145 hnb
                                  refine e_Ok.ps3 (x := (0, y9 + 1)) (y := (0, n7)) (z := (1, 275)) (q := 278) 3 rfl ?_
                                  refine e_Ok.callV rfl (e_dq hd rfl) rfl rfl rfl rfl (c_416 (e_dq hd rfl) (mT_Se j139 hT) hF (plC.fr hP hA j139) hn (by omega) (by omega) j140 j141) (fun r149 w150 h151 => ?_)
                                  obtain ⟨z153, rfl, q152, q152f, q152g, q152d, q152c⟩ := h151
                                  have f154 : e_fr mSe w w150 := e_fr.trans j139 (e_fr.mono q152 (fun c k q => by exact fe_se q))
                                  have q152B := bfs.next j142 (fun c k g => q152 c k (by unfold mFe mCl; omega)) q152d
                                  obtain ⟨rfl, q152c⟩ | ⟨q152r, q152l, q152c⟩ := q152c
                                  · refine e_Ok.nrm (q := 281) (st' := [(0, (-1))]) rfl rfl ?_
                                    refine e_Ok.run (t' := (246, [(10, (0, (-1))), (9, (0, y9 + 1)), (0, (1, 275)), (1, (0, x)), (2, (0, y)), (3, (0, n)), (6, (0, v3 349 x)), (7, (0, n7)), (8, (0, y8))], [], w150)) 2 rfl ?_
                                    refine e_Ok.sub eAlk (e_sub_of rfl ?_) (ih138 (y9 + 1) (-1) w150 ⟨f154, q152f, q152g, q152B, (wlk.next j143 (fun e => Eq.trans (q152 353 e no_9q_24) ((fun e => rfl) e))), (Eq.trans ((fun e => Eq.trans (q152 349 e no_9q_25) ((fun e => rfl) e)) n7) j144), (nrr.more j145 hnb (fun e => Eq.trans (q152 349 e no_9q_25) ((fun e => rfl) e)) q152d (fun y h => absurd h (q152c y))), by omega, (Or.inl rfl)⟩ (by omega))
                                    exact ⟨rfl, rfl, rfl, rfl, rfl, rfl, rfl, rfl, rfl, trivial⟩
                                  · refine e_Ok.nrm (q := 281) (st' := [(0, z153)]) rfl rfl ?_
                                    refine e_Ok.run (t' := (246, [(10, (0, z153)), (9, (0, y9 + 1)), (0, (1, 275)), (1, (0, x)), (2, (0, y)), (3, (0, n)), (6, (0, v3 349 x)), (7, (0, n7)), (8, (0, y8))], [], w150)) 2 rfl ?_
                                    refine e_Ok.sub eAlk (e_sub_of rfl ?_) (ih138 (y9 + 1) z153 w150 ⟨f154, q152f, q152g, q152B, (wlk.next j143 (fun e => Eq.trans (q152 353 e no_9q_24) ((fun e => rfl) e))), (Eq.trans ((fun e => Eq.trans (q152 349 e no_9q_25) ((fun e => rfl) e)) n7) j144), (nrr.more j145 hnb (fun e => Eq.trans (q152 349 e no_9q_25) ((fun e => rfl) e)) q152d q152c), by omega, (Or.inr ⟨q152r, q152l.1⟩)⟩ (by omega))
                                    exact ⟨rfl, rfl, rfl, rfl, rfl, rfl, rfl, rfl, rfl, trivial⟩
                                · replace h148 : (b10 : Int) ≥ 0 := Int.not_lt.mp (show ¬ ((b10 : Int) < 0) from h148)
                                  have hb0 : (0 ≤ b10 ∧ b10 < n) := by rcases j147 with g | g; exact absurd g (by omega); exact g.1
                                  refine e_Ok.ps1 (x := (1, 275)) (q := 252) 1 rfl ?_
                                  refine e_Ok.getr (z := 349) rfl (el_o rfl) rfl (ef_o rfl) ((j139 275 106 no_9q_20).trans (e_Has.eq hT (mt_o rfl))) ⟨by decide, by decide⟩ ?_
                                  refine e_Ok.ps1 (x := (0, b10)) (q := 257) 1 rfl ?_
                                  have h155 := (bfs.d j142 (x := b10) (by omega) (by omega))
                                  refine e_Ok.ald (z := v6 349 b10) rfl (el_o rfl) rfl (by omega) rfl (by omega) ?_
                                  refine e_Ok.ps1 (x := (1, 275)) (q := 259) 1 rfl ?_
                                  refine e_Ok.getr (z := 349) rfl (el_o rfl) rfl (ef_o rfl) ((j139 275 106 no_9q_20).trans (e_Has.eq hT (mt_o rfl))) ⟨by decide, by decide⟩ ?_
                                  refine e_Ok.ps1 (x := (0, n7)) (q := 264) 1 rfl ?_
                                  have h156 := (bfs.d j142 (x := n7) (by omega) (by omega))
                                  refine e_Ok.ald (z := v6 349 n7) rfl (el_o rfl) rfl (by omega) rfl (by omega) ?_
                                  refine e_Ok.ps1 (x := (0, 1)) (q := 266) 1 rfl ?_
                                  refine e_Ok.sub' (z := v6 349 n7 - 1) rfl rfl (by omega) ?_
                                  refine e_Ok.if2 rfl (fun h157 => ?_) (fun h157 => ?_)
                                  · replace h157 : (v6 349 b10 : Int) = v6 349 n7 - 1 := h157
                                    have hbl : (0 ≤ b10 ∧ b10 < n) ∧ lnx f n7 b10 y9 := by rcases j147 with g | g; exact absurd g (by omega); exact g
                                    have hnl := nrr.lt j145
                                    refine e_Ok.ps1 (x := (1, 275)) (q := 287) 1 rfl ?_
                                    refine e_Ok.getr (z := 353) rfl (el_o rfl) rfl (ef_o rfl) ((j139 275 113 no_9q_26).trans (e_Has.eq hT (mt_o rfl))) ⟨by decide, by decide⟩ ?_
                                    refine e_Ok.ps2 (x := (0, y9)) (y := (0, y8)) (q := 294) 2 rfl ?_
                                    refine e_Ok.ast rfl (el_o rfl) rfl rfl (by omega) ?_
                                    generalize hw158 : e_up v6 353 y8 y9 = w158
                                    refine e_Ok.run (t' := (299, [(7, (0, b10)), (0, (1, 275)), (1, (0, x)), (2, (0, y)), (3, (0, n)), (6, (0, v3 349 x)), (8, (0, y8)), (9, (0, y9)), (10, (0, b10))], [], w158)) 2 rfl ?_
                                    refine e_Ok.inc (z := y8 + 1) rfl rfl (by first | with_reducible rfl | omega) (by omega) ?_
                                    show e_Ok 20 elay ecode eI (d + 1) 417 (302, [(8, (0, y8 + 1)), (7, (0, b10)), (0, (1, 275)), (1, (0, x)), (2, (0, y)), (3, (0, n)), (6, (0, v3 349 x)), (9, (0, y9)), (10, (0, b10))], [], w158) _
                                    refine e_Ok.ps0 (q := 227) 1 rfl ?_
                                    refine e_Ok.sub eAlk (e_sub_of rfl ?_) (ih121 b10 (y8 + 1) w158 ⟨(show e_fr mSe w w158 from e_fr.up j139 hw158 (by first | exact Or.inr (Or.inr ⟨(by decide), (by decide)⟩) | (unfold mSe mCl; omega))), (e_kn.oth j140 hw158 (by decide)), (e_kn.oth j141 hw158 (by decide)), (bfs.next j142 (fun c k g => by rw [← hw158]; exact e_up_ne _ _ (Or.inl (by omega))) (edK.same (fun e => by rw [← hw158]; exact e_up_ne _ _ (Or.inl (by decide))))), (wlk.add j143 (by omega) (by omega) hbl.2 hbl.1 hw158), by omega, (Eq.trans (show w158 349 b10 = v6 349 b10 from by rw [← hw158]; exact e_up_ne _ _ (Or.inl (by decide))) (by omega)), by omega⟩ (by omega))
                                    exact ⟨rfl, rfl, rfl, rfl, rfl, rfl, rfl, trivial⟩
                                  · replace h157 : (v6 349 b10 : Int) ≠ v6 349 n7 - 1 := (show ¬ ((v6 349 b10 : Int) = v6 349 n7 - 1) from h157)
                                    refine e_Ok.inc (z := y9 + 1) rfl rfl (by first | with_reducible rfl | omega) (by omega) ?_
                                    show e_Ok 20 elay ecode eI (d + 1) 417 (273, [(9, (0, y9 + 1)), (0, (1, 275)), (1, (0, x)), (2, (0, y)), (3, (0, n)), (6, (0, v3 349 x)), (7, (0, n7)), (8, (0, y8)), (10, (0, b10))], [], v6) _
                                    have hnb : ¬ (0 ≤ b10 ∧ v6 349 b10 = v6 349 n7 - 1) := by omega
                                    have hl2 := nrr.lt2 j145 hnb
                                    refine e_Ok.ps3 (x := (0, y9 + 1)) (y := (0, n7)) (z := (1, 275)) (q := 278) 3 rfl ?_
                                    refine e_Ok.callV rfl (e_dq hd rfl) rfl rfl rfl rfl (c_416 (e_dq hd rfl) (mT_Se j139 hT) hF (plC.fr hP hA j139) hn (by omega) (by omega) j140 j141) (fun r160 w161 h162 => ?_)
                                    obtain ⟨z164, rfl, q163, q163f, q163g, q163d, q163c⟩ := h162
                                    have f165 : e_fr mSe w w161 := e_fr.trans j139 (e_fr.mono q163 (fun c k q => by exact fe_se q))
                                    have q163B := bfs.next j142 (fun c k g => q163 c k (by unfold mFe mCl; omega)) q163d
                                    obtain ⟨rfl, q163c⟩ | ⟨q163r, q163l, q163c⟩ := q163c
                                    · refine e_Ok.nrm (q := 281) (st' := [(0, (-1))]) rfl rfl ?_
                                      refine e_Ok.run (t' := (246, [(10, (0, (-1))), (9, (0, y9 + 1)), (0, (1, 275)), (1, (0, x)), (2, (0, y)), (3, (0, n)), (6, (0, v3 349 x)), (7, (0, n7)), (8, (0, y8))], [], w161)) 2 rfl ?_
                                      refine e_Ok.sub eAlk (e_sub_of rfl ?_) (ih138 (y9 + 1) (-1) w161 ⟨f165, q163f, q163g, q163B, (wlk.next j143 (fun e => Eq.trans (q163 353 e no_9q_24) ((fun e => rfl) e))), (Eq.trans ((fun e => Eq.trans (q163 349 e no_9q_25) ((fun e => rfl) e)) n7) j144), (nrr.more j145 hnb (fun e => Eq.trans (q163 349 e no_9q_25) ((fun e => rfl) e)) q163d (fun y h => absurd h (q163c y))), by omega, (Or.inl rfl)⟩ (by omega))
                                      exact ⟨rfl, rfl, rfl, rfl, rfl, rfl, rfl, rfl, rfl, trivial⟩
                                    · refine e_Ok.nrm (q := 281) (st' := [(0, z164)]) rfl rfl ?_
                                      refine e_Ok.run (t' := (246, [(10, (0, z164)), (9, (0, y9 + 1)), (0, (1, 275)), (1, (0, x)), (2, (0, y)), (3, (0, n)), (6, (0, v3 349 x)), (7, (0, n7)), (8, (0, y8))], [], w161)) 2 rfl ?_
                                      refine e_Ok.sub eAlk (e_sub_of rfl ?_) (ih138 (y9 + 1) z164 w161 ⟨f165, q163f, q163g, q163B, (wlk.next j143 (fun e => Eq.trans (q163 353 e no_9q_24) ((fun e => rfl) e))), (Eq.trans ((fun e => Eq.trans (q163 349 e no_9q_25) ((fun e => rfl) e)) n7) j144), (nrr.more j145 hnb (fun e => Eq.trans (q163 349 e no_9q_25) ((fun e => rfl) e)) q163d q163c), by omega, (Or.inr ⟨q163r, q163l.1⟩)⟩ (by omega))
                                      exact ⟨rfl, rfl, rfl, rfl, rfl, rfl, rfl, rfl, rfl, trivial⟩
                            refine e_Ok.sub eAlk (e_sub_of rfl ?_) (hL137 (13 + 1 : Int).toNat 0 (-1) w132 ⟨f136, q134f, q134g, q134B, (wlk.next j126 (fun e => Eq.trans (q134 353 e no_9q_24) ((fun e => rfl) e))), (Eq.trans ((fun e => Eq.trans (q134 349 e no_9q_25) ((fun e => rfl) e)) n7) j128), (nrr.of j125 (by omega) hfn (fun e => Eq.trans (q134 349 e no_9q_25) ((fun e => rfl) e)) q134d (fun y h => absurd h (q134c y))), by omega, (Or.inl rfl)⟩ (by omega))
                            exact ⟨rfl, rfl, rfl, rfl, rfl, rfl, rfl, rfl, rfl, trivial⟩
                          · refine e_Ok.nrm (q := 244) (st' := [(0, z135)]) rfl rfl ?_
                            refine e_Ok.run (t' := (246, [(10, (0, z135)), (9, (0, 0)), (0, (1, 275)), (1, (0, x)), (2, (0, y)), (3, (0, n)), (6, (0, v3 349 x)), (7, (0, n7)), (8, (0, y8))], [], w132)) 1 rfl ?_
                            have hL166 : ∀ (nn : Nat) (y9 : Int) (b10 : Int) (v6 : eW), e_fr mSe w v6 ∧ e_kn v6 351 0 (n - 1) ∧ e_kn v6 352 0 (6 * n - 1) ∧ bfs v6 f m n y5 ∧ wlk v6 f m n x y8 n7 ∧ v6 349 n7 = v3 349 x - y8 ∧ nrr v6 f m n n7 y9 b10 ∧ (0 ≤ y9 ∧ y9 ≤ 12) ∧ ((b10 = -1 ∨ ((0 ≤ b10 ∧ b10 < n) ∧ lnx f n7 b10 y9))) → 13 - y9 < nn → e_Ok 20 elay ecode eI (d + 1) 417 (246, [(0, (1, 275)), (1, (0, x)), (2, (0, y)), (3, (0, n)), (6, (0, v3 349 x)), (7, (0, n7)), (8, (0, y8)), (9, (0, y9)), (10, (0, b10))], [], v6) (fun r w' => ∃ z : Int, r = [(0, z)] ∧ e_fr mSe w w' ∧ (z = -1 ∨ ((0 ≤ z ∧ z ≤ 999) ∧ ∃ y', wlk w' f m n x z y'))) := by
                              intro nn
                              induction nn with
                              | zero => intro y9 b10 v6 hj hm; obtain ⟨j168, j169, j170, j171, j172, j173, j174, j175, j176⟩ := hj; exfalso; omega
                              | succ nn ih167 =>
                                intro y9 b10 v6 hj hm
                                obtain ⟨j168, j169, j170, j171, j172, j173, j174, j175, j176⟩ := hj
                                have hbs := nrr.lt j174
                                refine e_Ok.run (t' := (248, [(0, (1, 275)), (1, (0, x)), (2, (0, y)), (3, (0, n)), (6, (0, v3 349 x)), (7, (0, n7)), (8, (0, y8)), (9, (0, y9)), (10, (0, b10))], [(0, b10)], v6)) 1 rfl ?_
                                refine e_Ok.if1 rfl (fun h177 => ?_) (fun h177 => ?_)
                                · replace h177 : (b10 : Int) < 0 := h177
                                  refine e_Ok.inc (z := y9 + 1) rfl rfl (by first | with_reducible rfl | omega) (by omega) ?_
                                  show e_Ok 20 elay ecode eI (d + 1) 417 (273, [(9, (0, y9 + 1)), (0, (1, 275)), (1, (0, x)), (2, (0, y)), (3, (0, n)), (6, (0, v3 349 x)), (7, (0, n7)), (8, (0, y8)), (10, (0, b10))], [], v6) _
                                  have hnb : ¬ (0 ≤ b10 ∧ v6 349 b10 = v6 349 n7 - 1) := by omega
                                  have hl2 := nrr.lt2 j174 hnb
                                  refine e_Ok.ps3 (x := (0, y9 + 1)) (y := (0, n7)) (z := (1, 275)) (q := 278) 3 rfl ?_
                                  refine e_Ok.callV rfl (e_dq hd rfl) rfl rfl rfl rfl (c_416 (e_dq hd rfl) (mT_Se j168 hT) hF (plC.fr hP hA j168) hn (by omega) (by omega) j169 j170) (fun r178 w179 h180 => ?_)
                                  obtain ⟨z182, rfl, q181, q181f, q181g, q181d, q181c⟩ := h180
                                  have f183 : e_fr mSe w w179 := e_fr.trans j168 (e_fr.mono q181 (fun c k q => by exact fe_se q))
                                  have q181B := bfs.next j171 (fun c k g => q181 c k (by unfold mFe mCl; omega)) q181d
                                  obtain ⟨rfl, q181c⟩ | ⟨q181r, q181l, q181c⟩ := q181c
                                  · refine e_Ok.nrm (q := 281) (st' := [(0, (-1))]) rfl rfl ?_
                                    refine e_Ok.run (t' := (246, [(10, (0, (-1))), (9, (0, y9 + 1)), (0, (1, 275)), (1, (0, x)), (2, (0, y)), (3, (0, n)), (6, (0, v3 349 x)), (7, (0, n7)), (8, (0, y8))], [], w179)) 2 rfl ?_
                                    refine e_Ok.sub eAlk (e_sub_of rfl ?_) (ih167 (y9 + 1) (-1) w179 ⟨f183, q181f, q181g, q181B, (wlk.next j172 (fun e => Eq.trans (q181 353 e no_9q_24) ((fun e => rfl) e))), (Eq.trans ((fun e => Eq.trans (q181 349 e no_9q_25) ((fun e => rfl) e)) n7) j173), (nrr.more j174 hnb (fun e => Eq.trans (q181 349 e no_9q_25) ((fun e => rfl) e)) q181d (fun y h => absurd h (q181c y))), by omega, (Or.inl rfl)⟩ (by omega))
                                    exact ⟨rfl, rfl, rfl, rfl, rfl, rfl, rfl, rfl, rfl, trivial⟩
                                  · refine e_Ok.nrm (q := 281) (st' := [(0, z182)]) rfl rfl ?_
                                    refine e_Ok.run (t' := (246, [(10, (0, z182)), (9, (0, y9 + 1)), (0, (1, 275)), (1, (0, x)), (2, (0, y)), (3, (0, n)), (6, (0, v3 349 x)), (7, (0, n7)), (8, (0, y8))], [], w179)) 2 rfl ?_
                                    refine e_Ok.sub eAlk (e_sub_of rfl ?_) (ih167 (y9 + 1) z182 w179 ⟨f183, q181f, q181g, q181B, (wlk.next j172 (fun e => Eq.trans (q181 353 e no_9q_24) ((fun e => rfl) e))), (Eq.trans ((fun e => Eq.trans (q181 349 e no_9q_25) ((fun e => rfl) e)) n7) j173), (nrr.more j174 hnb (fun e => Eq.trans (q181 349 e no_9q_25) ((fun e => rfl) e)) q181d q181c), by omega, (Or.inr ⟨q181r, q181l.1⟩)⟩ (by omega))
                                    exact ⟨rfl, rfl, rfl, rfl, rfl, rfl, rfl, rfl, rfl, trivial⟩
                                · replace h177 : (b10 : Int) ≥ 0 := Int.not_lt.mp (show ¬ ((b10 : Int) < 0) from h177)
                                  have hb0 : (0 ≤ b10 ∧ b10 < n) := by rcases j176 with g | g; exact absurd g (by omega); exact g.1
                                  refine e_Ok.ps1 (x := (1, 275)) (q := 252) 1 rfl ?_
                                  refine e_Ok.getr (z := 349) rfl (el_o rfl) rfl (ef_o rfl) ((j168 275 106 no_9q_20).trans (e_Has.eq hT (mt_o rfl))) ⟨by decide, by decide⟩ ?_
                                  refine e_Ok.ps1 (x := (0, b10)) (q := 257) 1 rfl ?_
                                  have h184 := (bfs.d j171 (x := b10) (by omega) (by omega))
                                  refine e_Ok.ald (z := v6 349 b10) rfl (el_o rfl) rfl (by omega) rfl (by omega) ?_
                                  refine e_Ok.ps1 (x := (1, 275)) (q := 259) 1 rfl ?_
                                  refine e_Ok.getr (z := 349) rfl (el_o rfl) rfl (ef_o rfl) ((j168 275 106 no_9q_20).trans (e_Has.eq hT (mt_o rfl))) ⟨by decide, by decide⟩ ?_
                                  refine e_Ok.ps1 (x := (0, n7)) (q := 264) 1 rfl ?_
                                  have h185 := (bfs.d j171 (x := n7) (by omega) (by omega))
                                  refine e_Ok.ald (z := v6 349 n7) rfl (el_o rfl) rfl (by omega) rfl (by omega) ?_
                                  refine e_Ok.ps1 (x := (0, 1)) (q := 266) 1 rfl ?_
                                  refine e_Ok.sub' (z := v6 349 n7 - 1) rfl rfl (by omega) ?_
                                  refine e_Ok.if2 rfl (fun h186 => ?_) (fun h186 => ?_)
                                  · replace h186 : (v6 349 b10 : Int) = v6 349 n7 - 1 := h186
                                    have hbl : (0 ≤ b10 ∧ b10 < n) ∧ lnx f n7 b10 y9 := by rcases j176 with g | g; exact absurd g (by omega); exact g
                                    have hnl := nrr.lt j174
                                    refine e_Ok.ps1 (x := (1, 275)) (q := 287) 1 rfl ?_
                                    refine e_Ok.getr (z := 353) rfl (el_o rfl) rfl (ef_o rfl) ((j168 275 113 no_9q_26).trans (e_Has.eq hT (mt_o rfl))) ⟨by decide, by decide⟩ ?_
                                    refine e_Ok.ps2 (x := (0, y9)) (y := (0, y8)) (q := 294) 2 rfl ?_
                                    refine e_Ok.ast rfl (el_o rfl) rfl rfl (by omega) ?_
                                    generalize hw187 : e_up v6 353 y8 y9 = w187
                                    refine e_Ok.run (t' := (299, [(7, (0, b10)), (0, (1, 275)), (1, (0, x)), (2, (0, y)), (3, (0, n)), (6, (0, v3 349 x)), (8, (0, y8)), (9, (0, y9)), (10, (0, b10))], [], w187)) 2 rfl ?_
                                    refine e_Ok.inc (z := y8 + 1) rfl rfl (by first | with_reducible rfl | omega) (by omega) ?_
                                    show e_Ok 20 elay ecode eI (d + 1) 417 (302, [(8, (0, y8 + 1)), (7, (0, b10)), (0, (1, 275)), (1, (0, x)), (2, (0, y)), (3, (0, n)), (6, (0, v3 349 x)), (9, (0, y9)), (10, (0, b10))], [], w187) _
                                    refine e_Ok.ps0 (q := 227) 1 rfl ?_
                                    refine e_Ok.sub eAlk (e_sub_of rfl ?_) (ih121 b10 (y8 + 1) w187 ⟨(show e_fr mSe w w187 from e_fr.up j168 hw187 (by first | exact Or.inr (Or.inr ⟨(by decide), (by decide)⟩) | (unfold mSe mCl; omega))), (e_kn.oth j169 hw187 (by decide)), (e_kn.oth j170 hw187 (by decide)), (bfs.next j171 (fun c k g => by rw [← hw187]; exact e_up_ne _ _ (Or.inl (by omega))) (edK.same (fun e => by rw [← hw187]; exact e_up_ne _ _ (Or.inl (by decide))))), (wlk.add j172 (by omega) (by omega) hbl.2 hbl.1 hw187), by omega, (Eq.trans (show w187 349 b10 = v6 349 b10 from by rw [← hw187]; exact e_up_ne _ _ (Or.inl (by decide))) (by omega)), by omega⟩ (by omega))
                                    exact ⟨rfl, rfl, rfl, rfl, rfl, rfl, rfl, trivial⟩
                                  · replace h186 : (v6 349 b10 : Int) ≠ v6 349 n7 - 1 := (show ¬ ((v6 349 b10 : Int) = v6 349 n7 - 1) from h186)
                                    refine e_Ok.inc (z := y9 + 1) rfl rfl (by first | with_reducible rfl | omega) (by omega) ?_
                                    show e_Ok 20 elay ecode eI (d + 1) 417 (273, [(9, (0, y9 + 1)), (0, (1, 275)), (1, (0, x)), (2, (0, y)), (3, (0, n)), (6, (0, v3 349 x)), (7, (0, n7)), (8, (0, y8)), (10, (0, b10))], [], v6) _
                                    have hnb : ¬ (0 ≤ b10 ∧ v6 349 b10 = v6 349 n7 - 1) := by omega
                                    have hl2 := nrr.lt2 j174 hnb
                                    refine e_Ok.ps3 (x := (0, y9 + 1)) (y := (0, n7)) (z := (1, 275)) (q := 278) 3 rfl ?_
                                    refine e_Ok.callV rfl (e_dq hd rfl) rfl rfl rfl rfl (c_416 (e_dq hd rfl) (mT_Se j168 hT) hF (plC.fr hP hA j168) hn (by omega) (by omega) j169 j170) (fun r189 w190 h191 => ?_)
                                    obtain ⟨z193, rfl, q192, q192f, q192g, q192d, q192c⟩ := h191
                                    have f194 : e_fr mSe w w190 := e_fr.trans j168 (e_fr.mono q192 (fun c k q => by exact fe_se q))
                                    have q192B := bfs.next j171 (fun c k g => q192 c k (by unfold mFe mCl; omega)) q192d
                                    obtain ⟨rfl, q192c⟩ | ⟨q192r, q192l, q192c⟩ := q192c
                                    · refine e_Ok.nrm (q := 281) (st' := [(0, (-1))]) rfl rfl ?_
                                      refine e_Ok.run (t' := (246, [(10, (0, (-1))), (9, (0, y9 + 1)), (0, (1, 275)), (1, (0, x)), (2, (0, y)), (3, (0, n)), (6, (0, v3 349 x)), (7, (0, n7)), (8, (0, y8))], [], w190)) 2 rfl ?_
                                      refine e_Ok.sub eAlk (e_sub_of rfl ?_) (ih167 (y9 + 1) (-1) w190 ⟨f194, q192f, q192g, q192B, (wlk.next j172 (fun e => Eq.trans (q192 353 e no_9q_24) ((fun e => rfl) e))), (Eq.trans ((fun e => Eq.trans (q192 349 e no_9q_25) ((fun e => rfl) e)) n7) j173), (nrr.more j174 hnb (fun e => Eq.trans (q192 349 e no_9q_25) ((fun e => rfl) e)) q192d (fun y h => absurd h (q192c y))), by omega, (Or.inl rfl)⟩ (by omega))
                                      exact ⟨rfl, rfl, rfl, rfl, rfl, rfl, rfl, rfl, rfl, trivial⟩
                                    · refine e_Ok.nrm (q := 281) (st' := [(0, z193)]) rfl rfl ?_
                                      refine e_Ok.run (t' := (246, [(10, (0, z193)), (9, (0, y9 + 1)), (0, (1, 275)), (1, (0, x)), (2, (0, y)), (3, (0, n)), (6, (0, v3 349 x)), (7, (0, n7)), (8, (0, y8))], [], w190)) 2 rfl ?_
                                      refine e_Ok.sub eAlk (e_sub_of rfl ?_) (ih167 (y9 + 1) z193 w190 ⟨f194, q192f, q192g, q192B, (wlk.next j172 (fun e => Eq.trans (q192 353 e no_9q_24) ((fun e => rfl) e))), (Eq.trans ((fun e => Eq.trans (q192 349 e no_9q_25) ((fun e => rfl) e)) n7) j173), (nrr.more j174 hnb (fun e => Eq.trans (q192 349 e no_9q_25) ((fun e => rfl) e)) q192d q192c), by omega, (Or.inr ⟨q192r, q192l.1⟩)⟩ (by omega))
                                      exact ⟨rfl, rfl, rfl, rfl, rfl, rfl, rfl, rfl, rfl, trivial⟩
                            refine e_Ok.sub eAlk (e_sub_of rfl ?_) (hL166 (13 + 1 : Int).toNat 0 z135 w132 ⟨f136, q134f, q134g, q134B, (wlk.next j126 (fun e => Eq.trans (q134 353 e no_9q_24) ((fun e => rfl) e))), (Eq.trans ((fun e => Eq.trans (q134 349 e no_9q_25) ((fun e => rfl) e)) n7) j128), (nrr.of j125 (by omega) hfn (fun e => Eq.trans (q134 349 e no_9q_25) ((fun e => rfl) e)) q134d q134c), by omega, (Or.inr ⟨q134r, q134l.1⟩)⟩ (by omega))
                            exact ⟨rfl, rfl, rfl, rfl, rfl, rfl, rfl, rfl, rfl, trivial⟩
                    refine e_Ok.sub eAlk (e_sub_of rfl ?_) (hL120 (1001 + 1 : Int).toNat x 0 v3 ⟨j29, j30, j31, j32, (wlk.zero _ _ _ _ _), by omega, by omega, by omega⟩ (by omega))
                    exact ⟨rfl, rfl, rfl, rfl, rfl, rfl, rfl, trivial⟩
                  · replace h119 : (v3 349 x : Int) < 0 := Int.not_le.mp (show ¬ ((v3 349 x : Int) ≥ 0) from h119)
                    refine e_Ok.run (t' := (131, [(7, (0, 0)), (0, (1, 275)), (1, (0, x)), (2, (0, y)), (3, (0, n)), (4, (0, 2 * m)), (5, (0, y5)), (6, (0, y6))], [], v3)) 2 rfl ?_
                    have hL195 : ∀ (nn : Nat) (u5 : Int) (y7 : Int) (v4 : eW), e_fr mSe w v4 ∧ e_kn v4 351 0 (n - 1) ∧ e_kn v4 352 0 (6 * n - 1) ∧ bfs v4 f m n u5 ∧ (0 ≤ y6 ∧ y6 < u5 ∧ u5 ≤ 1000) ∧ (0 ≤ y7 ∧ y7 ≤ 2 * m) → 13 - y7 < nn → e_Ok 20 elay ecode eI (d + 1) 417 (131, [(0, (1, 275)), (1, (0, x)), (2, (0, y)), (3, (0, n)), (4, (0, 2 * m)), (5, (0, u5)), (6, (0, y6)), (7, (0, y7))], [], v4) (fun r w' => ∃ z : Int, r = [(0, z)] ∧ e_fr mSe w w' ∧ (z = -1 ∨ ((0 ≤ z ∧ z ≤ 999) ∧ ∃ y', wlk w' f m n x z y'))) := by
                      intro nn
                      induction nn with
                      | zero => intro u5 y7 v4 hj hm; obtain ⟨j197, j198, j199, j200, j201, j202⟩ := hj; exfalso; omega
                      | succ nn ih196 =>
                        intro u5 y7 v4 hj hm
                        obtain ⟨j197, j198, j199, j200, j201, j202⟩ := hj
                        have hb4 := j200.1
                        refine e_Ok.run (t' := (135, [(0, (1, 275)), (1, (0, x)), (2, (0, y)), (3, (0, n)), (4, (0, 2 * m)), (5, (0, u5)), (6, (0, y6)), (7, (0, y7))], [(0, 2 * m), (0, y7)], v4)) 2 rfl ?_
                        refine e_Ok.if2 rfl (fun h203 => ?_) (fun h203 => ?_)
                        · replace h203 : (y7 : Int) ≥ 2 * m := h203
                          refine e_Ok.inc (z := y6 + 1) rfl rfl (by first | with_reducible rfl | omega) (by omega) ?_
                          show e_Ok 20 elay ecode eI (d + 1) 417 (210, [(6, (0, y6 + 1)), (0, (1, 275)), (1, (0, x)), (2, (0, y)), (3, (0, n)), (4, (0, 2 * m)), (5, (0, u5)), (7, (0, y7))], [], v4) _
                          refine e_Ok.ps0 (q := 112) 1 rfl ?_
                          refine e_Ok.sub eAlk (e_sub_of rfl ?_) (ih28 u5 (y6 + 1) v4 ⟨j197, j198, j199, j200, by omega⟩ (by omega))
                          exact ⟨rfl, rfl, rfl, rfl, rfl, rfl, rfl, trivial⟩
                        · replace h203 : (y7 : Int) < 2 * m := Int.not_le.mp (show ¬ ((y7 : Int) ≥ 2 * m) from h203)
                          have hq6 := j200.2.1 y6 (by omega) (by omega)
                          refine e_Ok.ps2 (x := (1, 275)) (y := (1, 275)) (q := 140) 2 rfl ?_
                          refine e_Ok.getr (z := 350) rfl (el_o rfl) rfl (ef_o rfl) ((j197 275 107 no_9q_22).trans (e_Has.eq hT (mt_o rfl))) ⟨by decide, by decide⟩ ?_
                          refine e_Ok.ps1 (x := (0, y6)) (q := 145) 1 rfl ?_
                          refine e_Ok.ald (z := v4 350 y6) rfl (el_o rfl) rfl (by omega) rfl (by omega) ?_
                          refine e_Ok.ps1 (x := (0, y7)) (q := 148) 1 rfl ?_
                          refine e_Ok.callV rfl (e_dq hd rfl) rfl rfl rfl rfl (c_416 (e_dq hd rfl) (mT_Se j197 hT) hF (plC.fr hP hA j197) hn hq6.1 (by omega) j198 j199) (fun r204 w205 h206 => ?_)
                          obtain ⟨z208, rfl, q207, q207f, q207g, q207d, q207c⟩ := h206
                          have f209 : e_fr mSe w w205 := e_fr.trans j197 (e_fr.mono q207 (fun c k q => by exact fe_se q))
                          have q207B := bfs.next j200 (fun c k g => q207 c k (by unfold mFe mCl; omega)) q207d
                          obtain ⟨rfl, q207c⟩ | ⟨q207r, q207l, q207c⟩ := q207c
                          · refine e_Ok.nrm (q := 151) (st' := [(0, (-1))]) rfl rfl ?_
                            refine e_Ok.run (t' := (155, [(8, (0, (-1))), (0, (1, 275)), (1, (0, x)), (2, (0, y)), (3, (0, n)), (4, (0, 2 * m)), (5, (0, u5)), (6, (0, y6)), (7, (0, y7))], [(0, (-1))], w205)) 2 rfl ?_
                            refine e_Ok.if1 rfl (fun h210 => ?_) (fun h210 => ?_)
                            · replace h210 : ((-1) : Int) < 0 := h210
                              refine e_Ok.inc (z := y7 + 1) rfl rfl (by first | with_reducible rfl | omega) (by omega) ?_
                              show e_Ok 20 elay ecode eI (d + 1) 417 (204, [(7, (0, y7 + 1)), (8, (0, (-1))), (0, (1, 275)), (1, (0, x)), (2, (0, y)), (3, (0, n)), (4, (0, 2 * m)), (5, (0, u5)), (6, (0, y6))], [], w205) _
                              refine e_Ok.ps0 (q := 131) 1 rfl ?_
                              refine e_Ok.sub eAlk (e_sub_of rfl ?_) (ih196 u5 (y7 + 1) w205 ⟨f209, q207f, q207g, q207B, by omega, by omega⟩ (by omega))
                              exact ⟨rfl, rfl, rfl, rfl, rfl, rfl, rfl, rfl, trivial⟩
                            · replace h210 : ((-1) : Int) ≥ 0 := Int.not_lt.mp (show ¬ (((-1) : Int) < 0) from h210)
                              exfalso; omega
                          · refine e_Ok.nrm (q := 151) (st' := [(0, z208)]) rfl rfl ?_
                            refine e_Ok.run (t' := (155, [(8, (0, z208)), (0, (1, 275)), (1, (0, x)), (2, (0, y)), (3, (0, n)), (4, (0, 2 * m)), (5, (0, u5)), (6, (0, y6)), (7, (0, y7))], [(0, z208)], w205)) 2 rfl ?_
                            refine e_Ok.if1 rfl (fun h211 => ?_) (fun h211 => ?_)
                            · replace h211 : (z208 : Int) < 0 := h211
                              exfalso; omega
                            · replace h211 : (z208 : Int) ≥ 0 := Int.not_lt.mp (show ¬ ((z208 : Int) < 0) from h211)
                              refine e_Ok.ps1 (x := (1, 275)) (q := 159) 1 rfl ?_
                              refine e_Ok.getr (z := 349) rfl (el_o rfl) rfl (ef_o rfl) ((q207 275 106 no_9q_27).trans ((j197 275 106 no_9q_20).trans (e_Has.eq hT (mt_o rfl)))) ⟨by decide, by decide⟩ ?_
                              refine e_Ok.ps1 (x := (0, z208)) (q := 164) 1 rfl ?_
                              have h212 := (bfs.d j200 (x := z208) (by omega) (by omega))
                              refine e_Ok.ald (z := v4 349 z208) rfl (el_o rfl) rfl (by omega) ((q207 349 z208 no_9q_25).trans rfl) (by omega) ?_
                              refine e_Ok.if1 rfl (fun h213 => ?_) (fun h213 => ?_)
                              · replace h213 : (v4 349 z208 : Int) ≥ 0 := h213
                                refine e_Ok.inc (z := y7 + 1) rfl rfl (by first | with_reducible rfl | omega) (by omega) ?_
                                show e_Ok 20 elay ecode eI (d + 1) 417 (204, [(7, (0, y7 + 1)), (8, (0, z208)), (0, (1, 275)), (1, (0, x)), (2, (0, y)), (3, (0, n)), (4, (0, 2 * m)), (5, (0, u5)), (6, (0, y6))], [], w205) _
                                refine e_Ok.ps0 (q := 131) 1 rfl ?_
                                refine e_Ok.sub eAlk (e_sub_of rfl ?_) (ih196 u5 (y7 + 1) w205 ⟨f209, q207f, q207g, q207B, by omega, by omega⟩ (by omega))
                                exact ⟨rfl, rfl, rfl, rfl, rfl, rfl, rfl, rfl, trivial⟩
                              · replace h213 : (v4 349 z208 : Int) < 0 := Int.not_le.mp (show ¬ ((v4 349 z208 : Int) ≥ 0) from h213)
                                have hqb : w205 349 z208 = v4 349 z208 := q207 349 z208 no_9q_25
                                have hrm := bfs.room q207B (by omega) (by omega)
                                have hq0 : w205 350 y6 = v4 350 y6 := q207 350 y6 no_9q_28
                                have hq9 : w205 349 (v4 350 y6) = v4 349 (v4 350 y6) := q207 349 _ no_9q_25
                                have hq7 := bfs.d j200 (x := v4 350 y6) (by omega) (by omega)
                                refine e_Ok.ps1 (x := (1, 275)) (q := 169) 1 rfl ?_
                                refine e_Ok.getr (z := 349) rfl (el_o rfl) rfl (ef_o rfl) ((q207 275 106 no_9q_27).trans ((j197 275 106 no_9q_20).trans (e_Has.eq hT (mt_o rfl)))) ⟨by decide, by decide⟩ ?_
                                refine e_Ok.ps2 (x := (1, 275)) (y := (0, z208)) (q := 175) 2 rfl ?_
                                refine e_Ok.getr (z := 349) rfl (el_o rfl) rfl (ef_o rfl) ((q207 275 106 no_9q_27).trans ((j197 275 106 no_9q_20).trans (e_Has.eq hT (mt_o rfl)))) ⟨by decide, by decide⟩ ?_
                                refine e_Ok.ps1 (x := (1, 275)) (q := 179) 1 rfl ?_
                                refine e_Ok.getr (z := 350) rfl (el_o rfl) rfl (ef_o rfl) ((q207 275 107 no_9q_29).trans ((j197 275 107 no_9q_22).trans (e_Has.eq hT (mt_o rfl)))) ⟨by decide, by decide⟩ ?_
                                refine e_Ok.ps1 (x := (0, y6)) (q := 184) 1 rfl ?_
                                refine e_Ok.ald (z := v4 350 y6) rfl (el_o rfl) rfl (by omega) ((q207 350 y6 no_9q_28).trans rfl) (by omega) ?_
                                refine e_Ok.ald (z := v4 349 (v4 350 y6)) rfl (el_o rfl) rfl (by omega) ((q207 349 (v4 350 y6) no_9q_25).trans rfl) (by omega) ?_
                                refine e_Ok.ps1 (x := (0, 1)) (q := 187) 1 rfl ?_
                                refine e_Ok.add (z := v4 349 (v4 350 y6) + 1) rfl rfl (by omega) ?_
                                refine e_Ok.ast rfl (el_o rfl) rfl rfl (by omega) ?_
                                generalize hw214 : e_up w205 349 z208 (v4 349 (v4 350 y6) + 1) = w214
                                refine e_Ok.ps1 (x := (1, 275)) (q := 190) 1 rfl ?_
                                refine e_Ok.getr (z := 350) rfl (el_o rfl) rfl (ef_o rfl) (e_uq hw214 (Or.inl (by decide)) ((q207 275 107 no_9q_29).trans ((j197 275 107 no_9q_22).trans (e_Has.eq hT (mt_o rfl))))) ⟨by decide, by decide⟩ ?_
                                refine e_Ok.ps2 (x := (0, z208)) (y := (0, u5)) (q := 197) 2 rfl ?_
                                refine e_Ok.ast rfl (el_o rfl) rfl rfl (by omega) ?_
                                generalize hw216 : e_up w214 350 u5 z208 = w216
                                refine e_Ok.inc (z := u5 + 1) rfl rfl (by first | with_reducible rfl | omega) (by omega) ?_
                                show e_Ok 20 elay ecode eI (d + 1) 417 (201, [(5, (0, u5 + 1)), (8, (0, z208)), (0, (1, 275)), (1, (0, x)), (2, (0, y)), (3, (0, n)), (4, (0, 2 * m)), (6, (0, y6)), (7, (0, y7))], [], w216) _
                                refine e_Ok.inc (z := y7 + 1) rfl rfl (by first | with_reducible rfl | omega) (by omega) ?_
                                show e_Ok 20 elay ecode eI (d + 1) 417 (204, [(7, (0, y7 + 1)), (5, (0, u5 + 1)), (8, (0, z208)), (0, (1, 275)), (1, (0, x)), (2, (0, y)), (3, (0, n)), (4, (0, 2 * m)), (6, (0, y6))], [], w216) _
                                refine e_Ok.ps0 (q := 131) 1 rfl ?_
                                refine e_Ok.sub eAlk (e_sub_of rfl ?_) (ih196 (u5 + 1) (y7 + 1) w216 ⟨(show e_fr mSe w w216 from e_fr.up (show e_fr mSe w w214 from e_fr.up f209 hw214 (by first | exact Or.inr (Or.inr ⟨(by decide), (by decide)⟩) | (unfold mSe mCl; omega))) hw216 (by first | exact Or.inr (Or.inr ⟨(by decide), (by decide)⟩) | (unfold mSe mCl; omega))), (e_kn.oth (e_kn.oth q207f hw214 (by decide)) hw216 (by decide)), (e_kn.oth (e_kn.oth q207g hw214 (by decide)) hw216 (by decide)), (bfs.add (w := w205) (s := y7) (k := y6) q207B (by omega) (fun k g1 g2 => (hF.2.2.1 k g1 g2).1) (by omega) q207r (by omega) (by omega) (by rw [hq0]; exact q207l) (by rw [hq0, hq9]; exact hw214) hw216), by omega, by omega⟩ (by omega))
                                exact ⟨rfl, rfl, rfl, rfl, rfl, rfl, rfl, rfl, trivial⟩
                    refine e_Ok.sub eAlk (e_sub_of rfl ?_) (hL195 (13 + 1 : Int).toNat y5 0 v3 ⟨j29, j30, j31, j32, by omega, by omega⟩ (by omega))
                    exact ⟨rfl, rfl, rfl, rfl, rfl, rfl, rfl, rfl, trivial⟩
            refine e_Ok.sub eAlk (e_sub_of rfl ?_) (hL27 (1001 + 1 : Int).toNat 1 0 w25 ⟨(show e_fr mSe w w25 from e_fr.up (show e_fr mSe w w23 from e_fr.up f21 hw23 (by first | exact Or.inr (Or.inr ⟨(by decide), (by decide)⟩) | (unfold mSe mCl; omega))) hw25 (by first | exact Or.inr (Or.inr ⟨(by decide), (by decide)⟩) | (unfold mSe mCl; omega))), (e_kn.oth (e_kn.oth q19k hw23 (by decide)) hw25 (by decide)), (e_kn.oth (e_kn.oth (e_kn.fr q19 (fun k q => by unfold mFn mCl at q; omega) (e_kn.fr q12 (fun k q => by unfold mFn mCl at q; omega) (show e_kn v1 352 0 (6 * n - 1) from fun i g1 g2 => j7 i g1 (by omega)))) hw23 (by decide)) hw25 (by decide)), hbf, by omega⟩ (by omega))
            exact ⟨rfl, rfl, rfl, rfl, rfl, rfl, rfl, trivial⟩
          · replace h22 : (z20 : Int) = 0 := Classical.not_not.mp (show ¬ ((z20 : Int) ≠ 0) from h22)
            refine e_Ok.ps1 (x := (0, (-1))) (q := 78) 1 rfl ?_
            refine e_Ok.rets rfl rfl ?_
            exact ⟨_, rfl, f21, Or.inl rfl⟩
      · replace h8 : (y4 : Int) < n := Int.not_le.mp (show ¬ ((y4 : Int) ≥ n) from h8)
        refine e_Ok.ps1 (x := (1, 275)) (q := 10) 1 rfl ?_
        refine e_Ok.getr (z := 349) rfl (el_o rfl) rfl (ef_o rfl) ((j3 275 106 no_9q_20).trans (e_Has.eq hT (mt_o rfl))) ⟨by decide, by decide⟩ ?_
        refine e_Ok.ps2 (x := (0, (-1))) (y := (0, y4)) (q := 16) 2 rfl ?_
        refine e_Ok.ast rfl (el_o rfl) rfl rfl (by omega) ?_
        generalize hw218 : e_up v1 349 y4 (-1) = w218
        refine e_Ok.ps1 (x := (1, 275)) (q := 18) 1 rfl ?_
        refine e_Ok.getr (z := 351) rfl (el_o rfl) rfl (ef_o rfl) (e_uq hw218 (Or.inl (by decide)) ((j3 275 108 no_9q_30).trans (e_Has.eq hT (mt_o rfl)))) ⟨by decide, by decide⟩ ?_
        refine e_Ok.ps2 (x := (0, 0)) (y := (0, y4)) (q := 24) 2 rfl ?_
        refine e_Ok.ast rfl (el_o rfl) rfl rfl (by omega) ?_
        generalize hw220 : e_up w218 351 y4 0 = w220
        refine e_Ok.run (t' := (28, [(5, (0, 0)), (0, (1, 275)), (1, (0, x)), (2, (0, y)), (3, (0, n)), (4, (0, y4))], [], w220)) 2 rfl ?_
        have hL222 : ∀ (nn : Nat) (y5 : Int) (v2 : eW), e_fr mSe w v2 ∧ (0 ≤ y5 ∧ y5 ≤ 6) ∧ (∀ i, 0 ≤ i → i < y4 + 1 → v2 349 i = -1) ∧ e_kn v2 351 0 y4 ∧ e_kn v2 352 0 (6 * y4 + y5 - 1) → 7 - y5 < nn → e_Ok 20 elay ecode eI (d + 1) 417 (28, [(0, (1, 275)), (1, (0, x)), (2, (0, y)), (3, (0, n)), (4, (0, y4)), (5, (0, y5))], [], v2) (fun r w' => ∃ z : Int, r = [(0, z)] ∧ e_fr mSe w w' ∧ (z = -1 ∨ ((0 ≤ z ∧ z ≤ 999) ∧ ∃ y', wlk w' f m n x z y'))) := by
          intro nn
          induction nn with
          | zero => intro y5 v2 hj hm; obtain ⟨j224, j225, j226, j227, j228⟩ := hj; exfalso; omega
          | succ nn ih223 =>
            intro y5 v2 hj hm
            obtain ⟨j224, j225, j226, j227, j228⟩ := hj
            refine e_Ok.run (t' := (32, [(0, (1, 275)), (1, (0, x)), (2, (0, y)), (3, (0, n)), (4, (0, y4)), (5, (0, y5))], [(0, 6), (0, y5)], v2)) 2 rfl ?_
            refine e_Ok.if2 rfl (fun h229 => ?_) (fun h229 => ?_)
            · replace h229 : (y5 : Int) ≥ 6 := h229
              refine e_Ok.inc (z := y4 + 1) rfl rfl (by first | with_reducible rfl | omega) (by omega) ?_
              show e_Ok 20 elay ecode eI (d + 1) 417 (58, [(4, (0, y4 + 1)), (0, (1, 275)), (1, (0, x)), (2, (0, y)), (3, (0, n)), (5, (0, y5))], [], v2) _
              refine e_Ok.ps0 (q := 3) 1 rfl ?_
              refine e_Ok.sub eAlk (e_sub_of rfl ?_) (ih2 (y4 + 1) v2 ⟨j224, by omega, (fun i g1 g2 => j226 i g1 (by omega)), (fun i g1 g2 => j227 i g1 (by omega)), (fun i g1 g2 => j228 i g1 (by omega))⟩ (by omega))
              exact ⟨rfl, rfl, rfl, rfl, rfl, trivial⟩
            · replace h229 : (y5 : Int) < 6 := Int.not_le.mp (show ¬ ((y5 : Int) ≥ 6) from h229)
              refine e_Ok.ps1 (x := (1, 275)) (q := 36) 1 rfl ?_
              refine e_Ok.getr (z := 352) rfl (el_o rfl) rfl (ef_o rfl) ((j224 275 109 no_9q_31).trans (e_Has.eq hT (mt_o rfl))) ⟨by decide, by decide⟩ ?_
              refine e_Ok.ps2 (x := (0, y4)) (y := (0, 6)) (q := 43) 2 rfl ?_
              refine e_Ok.mul (z := 6 * y4) rfl rfl (by omega) ?_
              refine e_Ok.ps1 (x := (0, y5)) (q := 46) 1 rfl ?_
              refine e_Ok.add (z := 6 * y4 + y5) rfl rfl (by omega) ?_
              refine e_Ok.ps1 (x := (0, 0)) (q := 48) 1 rfl ?_
              refine e_Ok.ast rfl (el_o rfl) rfl rfl (by omega) ?_
              generalize hw230 : e_up v2 352 (6 * y4 + y5) 0 = w230
              refine e_Ok.inc (z := y5 + 1) rfl rfl (by first | with_reducible rfl | omega) (by omega) ?_
              show e_Ok 20 elay ecode eI (d + 1) 417 (52, [(5, (0, y5 + 1)), (0, (1, 275)), (1, (0, x)), (2, (0, y)), (3, (0, n)), (4, (0, y4))], [], w230) _
              refine e_Ok.ps0 (q := 28) 1 rfl ?_
              refine e_Ok.sub eAlk (e_sub_of rfl ?_) (ih223 (y5 + 1) w230 ⟨(show e_fr mSe w w230 from e_fr.up j224 hw230 (by first | exact Or.inr (Or.inr ⟨(by decide), (by decide)⟩) | (unfold mSe mCl; omega))), by omega, (fun i g1 g2 => Eq.trans (show w230 349 i = v2 349 i from by rw [← hw230]; exact e_up_ne _ _ (Or.inl (by decide))) (j226 i g1 g2)), (e_kn.oth j227 hw230 (by decide)), (fun i g1 g2 => e_kn.ext (k := 6 * y4 + y5) j228 hw230 (by omega) (by omega) i g1 (by omega))⟩ (by omega))
              exact ⟨rfl, rfl, rfl, rfl, rfl, rfl, trivial⟩
        refine e_Ok.sub eAlk (e_sub_of rfl ?_) (hL222 (7 + 1 : Int).toNat 0 w220 ⟨(show e_fr mSe w w220 from e_fr.up (show e_fr mSe w w218 from e_fr.up j3 hw218 (by first | exact Or.inr (Or.inr ⟨(by decide), (by decide)⟩) | (unfold mSe mCl; omega))) hw220 (by first | exact Or.inr (Or.inr ⟨(by decide), (by decide)⟩) | (unfold mSe mCl; omega))), by omega, (fun i g1 g2 => Eq.trans (show w220 349 i = w218 349 i from by rw [← hw220]; exact e_up_ne _ _ (Or.inl (by decide))) (Decidable.byCases (p := i = y4) (fun e => by rw [e, ← hw218]; exact e_up_eq _ _ _ _) (fun e => Eq.trans (show w218 349 i = v1 349 i from by rw [← hw218]; exact e_up_ne _ _ (Or.inr e)) (j5 i g1 (by omega))))), (fun i g1 g2 => e_kn.ext (k := y4) (e_kn.oth j6 hw218 (by decide)) hw220 (by omega) (by omega) i g1 (by omega)), (fun i g1 g2 => (e_kn.oth (e_kn.oth j7 hw218 (by decide)) hw220 (by decide)) i g1 (by omega))⟩ (by omega))
        exact ⟨rfl, rfl, rfl, rfl, rfl, rfl, trivial⟩
  refine e_Ok.sub eAlk (e_sub_of rfl ?_) (hL1 (1001 + 1 : Int).toNat 0 w ⟨(e_fr.refl w), by omega, (fun i g1 g2 => by omega), (fun i g1 g2 => by omega), (fun i g1 g2 => by omega)⟩ (by omega))
  exact ⟨rfl, rfl, rfl, rfl, rfl, trivial⟩
end
end
-- part 9r
section
noncomputable section
def mNc (c _k : Int) : Prop := c = 347 ∨ c = 348
theorem su_9r_0 {c k : Int} (q : mNc c k) : mS c k := by
  unfold mNc at q
  rcases q with q | q
  · exact Or.inr (Or.inl ⟨(by omega), (by omega)⟩)
  · exact Or.inr (Or.inl ⟨(by omega), (by omega)⟩)
theorem mT_Nc {w w' : eW} (f : e_fr mNc w w') (h : e_Has mTy w) : e_Has mTy w' := mT_S (f.mono (fun c k q => su_9r_0 q)) h
/-- the joint j of the arm a, on a grid as wide as n -/
def ncJ (w w' : eW) (a n j : Int) : Prop := w' 348 j = w 276 (36 * a + j + 32) - (w 276 (36 * a + j + 32) - w 288 (6 * a + j)) / n * n ∧ w' 347 j = (w 276 (36 * a + j + 32) - w 288 (6 * a + j)) / n + (w 289 (6 * a + j) - w 276 (36 * a + j + 32)) / n + 1 ∧ 1 ≤ w' 347 j ∧ w' 347 j ≤ 200001
theorem div_bd {x n m : Int} (hx : 0 ≤ x ∧ x ≤ m) (hn : 1 ≤ n) : (0 ≤ x / n ∧ x / n ≤ m) ∧ 0 ≤ x / n * n ∧ x / n * n ≤ x := by
  have h1 : 0 ≤ x / n := Int.ediv_nonneg hx.1 (by omega)
  have h2 : x / n ≤ x := Int.ediv_le_self n hx.1
  have h3 : x / n * n ≤ x := Int.ediv_mul_le x (by omega)
  have h4 : 0 ≤ x / n * n := Int.mul_nonneg h1 (by omega)
  omega
theorem mul_bd {x y m n : Int} (hx : 1 ≤ x ∧ x ≤ m) (hy : 1 ≤ y ∧ y ≤ n) : 1 ≤ x * y ∧ x * y ≤ m * n := by
  have h1 := Int.mul_le_mul hx.1 hy.1 (by decide) (by omega)
  have h2 := Int.mul_le_mul hx.2 hy.2 (by omega) (by omega)
  omega
theorem prd_congr {f g : Int → Int} : ∀ {n : Nat}, (∀ k : Int, 0 ≤ k → k < n → f k = g k) → prd f n = prd g n
  | 0, _ => rfl
  | n + 1, h => by
    show prd f n * f n = prd g n * g n
    rw [prd_congr (n := n) (fun k g1 g2 => h k g1 (by omega)), h n (by omega) (by omega)]
theorem nc_prd {v w' : eW} {y z q : Int} (h : q = prd (fun k => v 347 k) y.toNat) (h0 : 0 ≤ y) (he : ∀ k, k ≠ y → w' 347 k = v 347 k) (hz : w' 347 y = z) : q * z = prd (fun k => w' 347 k) (y + 1).toNat := by
  rw [show (y + 1).toNat = y.toNat + 1 by omega]
  show _ = prd (fun k => w' 347 k) y.toNat * w' 347 (y.toNat : Int)
  rw [show ((y.toNat : Nat) : Int) = y by omega, hz, h, prd_congr (f := fun k => w' 347 k) (g := fun k => v 347 k) (fun k g1 g2 => he k (by omega))]
theorem nc_all {w v w' : eW} {a n y : Int} (h : ∀ j, 0 ≤ j → j < y → ncJ w v a n j) (e7 : ∀ k, k ≠ y → w' 347 k = v 347 k) (e8 : ∀ k, k ≠ y → w' 348 k = v 348 k) (hn : ncJ w w' a n y) : ∀ j, 0 ≤ j → j < y + 1 → ncJ w w' a n j := fun j g1 g2 => by
  by_cases e : j = y
  · rw [e]; exact hn
  · have := h j g1 (by omega)
    unfold ncJ at this ⊢
    rw [e7 j e, e8 j e]
    exact this
theorem nc_big {v w' : eW} {y z : Int} (h : 1000 < prd (fun k => v 347 k) y.toNat) (h0 : 0 ≤ y) (he : ∀ k, k ≠ y → w' 347 k = v 347 k) (hz : w' 347 y = z) (h1 : 1 ≤ z) : 1000 < prd (fun k => w' 347 k) (y + 1).toNat := by
  rw [← nc_prd rfl h0 he hz]
  have := Int.mul_le_mul (show 1001 ≤ prd (fun k => v 347 k) y.toNat by omega) h1 (by decide) (by omega)
  omega
def mFo (c _k : Int) : Prop := c = 353
theorem su_9r_1 {c k : Int} (q : mFo c k) : mS c k := by
  unfold mFo at q
  rcases q with q
  · exact Or.inr (Or.inl ⟨(by omega), (by omega)⟩)
theorem mT_Fo {w w' : eW} (f : e_fr mFo w w') (h : e_Has mTy w) : e_Has mTy w' := mT_S (f.mono (fun c k q => su_9r_1 q)) h
def mPm (c k : Int) : Prop := c = 276 ∨ (c = 275 ∧ ((58 ≤ k ∧ k ≤ 60) ∨ (110 ≤ k ∧ k ≤ 112) ∨ k = 118)) ∨ (321 ≤ c ∧ c ≤ 325) ∨ (347 ≤ c ∧ c ≤ 353)
theorem wE_bd {w : eW} (h : bkE w) : 0 ≤ wE w ∧ wE w ≤ 200000 := by
  unfold wE
  by_cases e : w 275 5 = 0
  · rw [if_pos e]; decide
  · rw [if_neg e]; have := h.1; exact h.2.2 (by omega)
/-! a way that was found leads within the limits -/
theorem wyP.own {w w' : eW} {a i : Int} {P : Int → Int → Int} (h : wyP w a i P) (hi : 0 ≤ i) (hs : w 276 (36 * a + 19) ≤ 999) (h1 : w' 276 (36 * a + 19) = w 276 (36 * a + 19)) (h2 : w' 276 (36 * a + 26) = w 276 (36 * a + 26)) (h3 : ∀ c k, c = 286 ∨ c = 288 ∨ c = 289 → w' c k = w c k) (h4 : ∀ m, 0 ≤ m → m < 1000 → w' 276 (1000 * a + m + 21060) = w 276 (1000 * a + m + 21060)) : wyP w' a i P := by
  obtain ⟨q1, q2, q3⟩ := h
  refine ⟨fun m g1 g2 => ?_, fun m j g1 g2 g3 g4 => ?_, fun m j g1 g2 g3 g4 => ?_⟩
  · rw [h1] at g2
    rw [h4 m (by omega) (by omega), h3 286 _ (by omega)]
    exact q1 m g1 g2
  · rw [h1] at g2
    rw [h4 m (by omega) (by omega), h2]
    exact q2 m j g1 g2 g3 g4
  · rw [h1] at g2
    rw [h3 286 _ (by omega)] at g4
    rw [h3 288 _ (by omega), h3 289 _ (by omega)]
    exact q3 m j g1 g2 g3 g4
/-- what plan writes -/
def plW (a k : Int) : Prop := k = 36 * a + 19 ∨ k = 36 * a + 20 ∨ k = 36 * a + 21 ∨ k = 36 * a + 26 ∨ (1000 * a + 21060 ≤ k ∧ k < 1000 * a + 22060)
theorem mMo.plan {w w' : eW} {a : Int} (h : mMo w (-1)) (hty : moT w) (ha : 0 ≤ a ∧ a ≤ 3) (haA : a < w 275 10) (hst : w 276 (36 * a + 16) = 0) (hf : ∀ c k, moK c k ∨ (c = 276 ∧ 16 ≤ k ∧ k < 160) → ¬ (c = 276 ∧ plW a k) → w' c k = w c k) (hz : 0 ≤ w' 276 (36 * a + 19)) (hP : ∃ P, wyP w' a 0 P ∧ ∀ j, 0 ≤ j → j < w' 286 a → P 0 j = w' 276 (36 * a + j + 32)) : mMo w' (-1) := by
  obtain ⟨h1, h2, h3⟩ := h
  have f5 : ∀ c k, c = 286 ∨ c = 288 ∨ c = 289 ∨ c = 291 → w' c k = w c k := fun c k q => hf c k (Or.inl (by unfold moK; omega)) (by omega)
  have f7 : w' 275 10 = w 275 10 := hf 275 10 (Or.inl (by unfold moK; omega)) (by omega)
  have fa : ∀ b f, 0 ≤ b → b ≤ 3 → 16 ≤ f → f ≤ 51 → (b = a → f ≠ 19 ∧ f ≠ 20 ∧ f ≠ 21 ∧ f ≠ 26) → w' 276 (36 * b + f) = w 276 (36 * b + f) := fun b f g1 g2 g3 g4 g5 => hf 276 _ (Or.inr ⟨rfl, by omega, by omega⟩) (by unfold plW; omega)
  have fj : ∀ b j f, 0 ≤ b → b ≤ 3 → 0 ≤ j → j ≤ 5 → (f = 32 ∨ f = 38 ∨ f = 44) → w' 276 (36 * b + j + f) = w 276 (36 * b + j + f) := fun b j f g1 g2 g3 g4 g5 => hf 276 _ (Or.inr ⟨rfl, by omega, by omega⟩) (by unfold plW; omega)
  refine ⟨fun b j g1 g2 g3 g4 => ?_, fun b g1 g2 => ?_, fun e b g1 g2 => ?_⟩
  · rw [f5 286 _ (by omega)] at g4
    have y := hty.2 b g1 g2
    have q := h1 b j g1 g2 g3 g4
    unfold moJ at q ⊢
    rw [fj b j 32 g1 g2 g3 (by omega) (by omega), fj b j 38 g1 g2 g3 (by omega) (by omega), fj b j 44 g1 g2 g3 (by omega) (by omega), f5 288 _ (by omega), f5 289 _ (by omega), f5 291 _ (by omega), fa b 16 g1 g2 (by omega) (by omega) (by omega)]
    exact q
  · obtain ⟨q1, q2⟩ := h2 b g1 g2
    have e22 := fa b 22 g1 g2 (by omega) (by omega) (by omega)
    by_cases e : b = a
    · subst e
      refine ⟨fun _ => ⟨by rw [f7]; exact haA, hz, hP⟩, fun q => ?_⟩
      rw [e22] at q
      have := (q2 q).1
      omega
    · obtain ⟨y1, y2, y3, y4⟩ := hty.2 b g1 g2
      have f1 := fa b 19 g1 g2 (by omega) (by omega) (by omega)
      have f2 := fa b 20 g1 g2 (by omega) (by omega) (by omega)
      have f3 := fa b 23 g1 g2 (by omega) (by omega) (by omega)
      have f4 := fa b 26 g1 g2 (by omega) (by omega) (by omega)
      have f8 := fa b 16 g1 g2 (by omega) (by omega) (by omega)
      have f6 : ∀ m, 0 ≤ m → m < 1000 → w' 276 (1000 * b + m + 21060) = w 276 (1000 * b + m + 21060) := fun m p1 p2 => hf 276 _ (Or.inl (by unfold moK; omega)) (by unfold plW; omega)
      refine ⟨fun q => ?_, fun q => ?_⟩
      · rw [f2] at q
        obtain ⟨z1, z2, P, z3, z4⟩ := q1 q
        refine ⟨by rw [f7]; exact z1, by rw [f1]; exact z2, P, z3.own (by omega) y1 f1 f4 (fun c k q => f5 c k (by omega)) f6, fun j g3 g4 => ?_⟩
        rw [f5 286 _ (by omega)] at g4
        rw [fj b j 32 g1 g2 g3 (by omega) (by omega)]
        exact z4 j g3 g4
      · rw [e22] at q
        obtain ⟨z1, z2, P, z3, z4⟩ := q2 q
        rw [f3, f1, f8]
        refine ⟨z1, z2, P, z3.own y2 y1 f1 f4 (fun c k q => f5 c k (by omega)) f6, fun j g3 g4 => ?_⟩
        rw [f5 286 _ (by omega)] at g4
        rw [fj b j 32 g1 g2 g3 (by omega) (by omega), fj b j 44 g1 g2 g3 (by omega) (by omega)]
        exact z4 j g3 g4
  · rw [hf 276 1 (Or.inl (by unfold moK; omega)) (by unfold plW; omega)] at e
    rw [f7] at g2
    have := hty.1
    rw [fa b 16 g1 (by omega) (by omega) (by omega) (by omega)]
    exact h3 e b g1 g2
/-- the grid of a plan, as the cell has it -/
def ndF (w : eW) (a n j : Int) : Int := (w 276 (36 * a + j + 32) - w 288 (6 * a + j)) / n + (w 289 (6 * a + j) - w 276 (36 * a + j + 32)) / n + 1
def fsF (w : eW) (a n j : Int) : Int := w 276 (36 * a + j + 32) - (w 276 (36 * a + j + 32) - w 288 (6 * a + j)) / n * n
/-- plan may be carried out -/
def plA (w : eW) (a n m : Int) : Prop := ((0 ≤ a ∧ a < w 275 10) ∧ (1 ≤ n ∧ n ≤ 16) ∧ 0 ≤ m ∧ m ≤ 2000) ∧ w 275 3 = 1 ∧ w 276 (36 * a + 16) = 0 ∧ prd (ndF w a n) (w 286 a).toNat ≤ 1000 ∧ ∀ j, 0 ≤ j → j < w 286 a → (w 288 (6 * a + j) ≤ w 276 (j + 8) ∧ w 276 (j + 8) ≤ w 289 (6 * a + j)) ∧ ∃ q, w 276 (j + 8) - fsF w a n j = q * n
def plN (w : eW) (a n z : Int) (f : Int → Int) (k : Int) : Int := if k = 36 * a + 19 then z else if k = 36 * a + 26 then n else if k = 36 * a + 20 then 1 else if k = 36 * a + 21 then 1 else if 1000 * a + 21060 ≤ k ∧ k < 1000 * a + 22060 then (if k - (1000 * a + 21060) < z then f (k - (1000 * a + 21060)) else 0) else w 276 k
theorem gr_in {w v : eW} {a n j x q : Int} (h : ncJ w v a n j) (hn : 1 ≤ n) (hV : w 288 (6 * a + j) ≤ w 276 (36 * a + j + 32) ∧ w 276 (36 * a + j + 32) ≤ w 289 (6 * a + j)) (hx : w 288 (6 * a + j) ≤ x ∧ x ≤ w 289 (6 * a + j)) (hq : x - v 348 j = q * n) : (0 ≤ q ∧ q < v 347 j) ∧ (x - v 348 j) / n = q := by
  obtain ⟨h1, h2, -, -⟩ := h
  exact ⟨aim_grid hn hV rfl rfl h1 h2 hx hq, by rw [hq, Int.mul_ediv_cancel _ (by omega)]⟩
theorem gr_val {w v : eW} {a n j : Int} (h : ncJ w v a n j) : w 276 (36 * a + j + 32) - v 348 j = (w 276 (36 * a + j + 32) - w 288 (6 * a + j)) / n * n := by
  rw [h.1]; omega
theorem gr_bd {w v : eW} {a n j : Int} (h : ncJ w v a n j) (hn : 1 ≤ n) (hV : w 288 (6 * a + j) ≤ w 276 (36 * a + j + 32) ∧ w 276 (36 * a + j + 32) ≤ w 289 (6 * a + j)) (hb : -100000 ≤ w 288 (6 * a + j) ∧ w 289 (6 * a + j) ≤ 100000) : -100000 ≤ v 348 j ∧ v 348 j ≤ 100000 := by
  have := div_bd (x := w 276 (36 * a + j + 32) - w 288 (6 * a + j)) (n := n) (m := 200000) (by omega) hn
  rw [h.1]
  omega
/-- the steps that were found, as a way -/
theorem wy_new {w v w' : eW} {a n m z x N' : Int} {f d : Int → Int} (hF : plF a m f) (hm : w 286 a = m) (hf : ∀ k, v 347 k = f k) (hn : 1 ≤ n) (hJ : ∀ j, 0 ≤ j → j < m → ncJ w v a n j) (hV : ∀ j, 0 ≤ j → j < m → w 288 (6 * a + j) ≤ w 276 (36 * a + j + 32) ∧ w 276 (36 * a + j + 32) ≤ w 289 (6 * a + j)) (hd : ∀ j, d j = (w 276 (36 * a + j + 32) - v 348 j) / n) (hx : x = smd f d m.toNat) {u : eW} (hw : ∃ y', wlk u f m N' x z y')
    (e1 : w' 276 (36 * a + 19) = z) (e2 : w' 276 (36 * a + 26) = n) (e3 : ∀ c k, c = 286 ∨ c = 288 ∨ c = 289 → w' c k = w c k) (e4 : ∀ i, 0 ≤ i → i < z → w' 276 (1000 * a + i + 21060) = u 353 i) (e5 : ∀ j, 0 ≤ j → j < m → w' 276 (36 * a + j + 32) = w 276 (36 * a + j + 32)) : ∃ P, wyP w' a 0 P ∧ ∀ j, 0 ≤ j → j < w' 286 a → P 0 j = w' 276 (36 * a + j + 32) := by
  obtain ⟨-, F2, F3, -⟩ := hF
  obtain ⟨y', N, N0, -, Ns⟩ := hw
  have hfp : ∀ k : Int, 0 ≤ k → k < (m.toNat : Nat) → 1 ≤ f k := fun k g1 g2 => (F3 k g1 (by omega)).1
  have cj : ∀ j : Int, 0 ≤ j → ((j.toNat : Nat) : Int) = j := fun j g => by omega
  have em : w' 286 a = m := by rw [e3 286 a (by omega)]; exact hm
  have dd : ∀ j, 0 ≤ j → j < m → (0 ≤ d j ∧ d j < f j) ∧ w 276 (36 * a + j + 32) - v 348 j = d j * n := fun j g1 g2 => by
    have q := gr_in (hJ j g1 g2) hn (hV j g1 g2) (hV j g1 g2) (gr_val (hJ j g1 g2))
    rw [hd j, q.2, ← hf j]
    exact ⟨q.1, gr_val (hJ j g1 g2)⟩
  refine ⟨fun i j => if j < m then v 348 j + n * dg f (N i) j.toNat else 0, ⟨fun i g1 g2 => ?_, fun i j g1 g2 g3 g4 => ?_, fun i j g1 g2 g3 g4 => ?_⟩, fun j g1 g2 => ?_⟩
  · rw [e1] at g2
    rw [e4 i g1 g2, em]
    exact (Ns i g1 g2).1.2
  · rw [e1] at g2
    rw [e4 i g1 g2, e2]
    obtain ⟨s1, s2, -⟩ := Ns i g1 g2
    show (_ → (if j < m then v 348 j + n * dg f (N (i + 1)) j.toNat else 0) = (if j < m then v 348 j + n * dg f (N i) j.toNat else 0) + n) ∧ (_ → (if j < m then v 348 j + n * dg f (N (i + 1)) j.toNat else 0) = (if j < m then v 348 j + n * dg f (N i) j.toNat else 0) - n) ∧ (_ → _ → (if j < m then v 348 j + n * dg f (N (i + 1)) j.toNat else 0) = (if j < m then v 348 j + n * dg f (N i) j.toNat else 0))
    by_cases c : j < m
    · rw [if_pos c, if_pos c]
      have l := lnx.dg (n := m.toNat) (i := j.toNat) s2 (by omega) (by omega) hfp
      rw [cj j g3] at l
      refine ⟨fun g => ?_, fun g => ?_, fun p1 p2 => ?_⟩
      · rw [l.1 g, Int.mul_add, Int.mul_one]; omega
      · rw [l.2.1 g, Int.mul_sub, Int.mul_one]; omega
      · rw [l.2.2 p1 p2]
    · rw [if_neg c, if_neg c]
      exact ⟨fun g => by omega, fun g => by omega, fun _ _ => rfl⟩
  · rw [e1] at g2
    rw [em] at g4
    show w' 288 _ ≤ (if j < m then v 348 j + n * dg f (N i) j.toNat else 0) ∧ (if j < m then v 348 j + n * dg f (N i) j.toNat else 0) ≤ w' 289 _
    rw [if_pos g4, e3 288 _ (by omega), e3 289 _ (by omega)]
    obtain ⟨h1, h2, -, -⟩ := hJ j g3 g4
    have b := dg_in (f := f) (x := N i) (j := j.toNat) (by rw [cj j g3]; exact (F3 j g3 g4).1)
    rw [cj j g3, ← hf j] at b
    exact val_grid hn (hV j g3 g4) rfl rfl h1 h2 b
  · rw [em] at g2
    show (if j < m then v 348 j + n * dg f (N 0) j.toNat else 0) = _
    rw [if_pos g2, N0, hx, smd_dg (n := m.toNat) (by omega) (fun k p1 p2 => (dd k p1 (by omega)).1), cj j g1, e5 j g1 g2]
    have := (dd j g1 g2).2
    rw [Int.mul_comm (d j) n] at this
    omega
theorem plW_tk {a k v : Int} (ha : 0 ≤ a ∧ a ≤ 3) (hv : 0 ≤ v ∧ v ≤ 15) (h : plW a k) : k ≠ 1260 * v + 416 ∧ ¬ tkK v k := by
  unfold plW at h
  exact ⟨by omega, fun q => by unfold tkK at q; omega⟩
theorem mInv.plan {w w' : eW} {G : Int → Gh} {a : Int} (h : mInv w G) (ha : 0 ≤ a ∧ a ≤ 3) (haA : a < w 275 10) (hst : w 276 (36 * a + 16) = 0) (hF : e_fr (fun c k => (c = 276 ∧ plW a k) ∨ (c = 275 ∧ ((58 ≤ k ∧ k ≤ 60) ∨ (110 ≤ k ∧ k ≤ 112) ∨ k = 118)) ∨ (321 ≤ c ∧ c ≤ 325) ∨ (347 ≤ c ∧ c ≤ 353)) w w') (hT : e_Has mTy w') (hz : 0 ≤ w' 276 (36 * a + 19)) (hP : ∃ P, wyP w' a 0 P ∧ ∀ j, 0 ≤ j → j < w' 286 a → P 0 j = w' 276 (36 * a + j + 32)) : mInv w' G := by
  have h0 := h
  obtain ⟨t1, -, -, -, -, h6, h7, h8, h9⟩ := h0
  have hp := e_Has.get t1 (c := 275) (k := 40) (lo := 0) (hi := 32) rfl (by decide)
  refine h.next hF hT (fun c k q => by unfold cfN; omega) (mMo.plan h6 (e_Has.mo t1) ha haA hst (fun c k q1 q2 => hF c k (fun q => ?_)) hz hP) (mOr.fr h7 hp.2 (e_Has.orn t1) (e_Has.orw t1 hp.2) (fun k q => hF _ _ (fun q1 => ?_))) (fun v v1 v2 => tkOk.hop h8 (h9 v v1 v2) hF (fun c k q => ⟨by omega, fun e => plW_tk ha ⟨v1, v2⟩ (by rcases q with q | q; exact q.2; exfalso; omega)⟩))
  · rcases q with q | q
    · exact q2 q
    · rcases q1 with q1 | q1
      · unfold moK at q1; omega
      · omega
  · rcases q1 with q1 | q1
    · have := q1.2; unfold plW at this; unfold orK at q; omega
    · omega
/-- a plan was carried out, and written down -/
def plD (w w' : eW) (G : Int → Gh) (a n m : Int) : Prop := ∃ (z : Int) (f : Int → Int) (wm : eW), (0 ≤ z ∧ z ≤ 999) ∧ e_fr mPm w wm ∧ (∀ k, wm 276 k = plN w a n z f k) ∧ mInv wm G ∧ (∀ j, 0 ≤ j → j < z → wm 353 j = f j) ∧ wrR wm w' (w 275 5) (wE w) 10 a n m ∧ wm 275 118 = w 275 118 + 1 ∧ wm 275 118 ≤ 60
theorem plN_eq {w : eW} {a n z : Int} {f g : Int → Int} (h : ∀ i, 0 ≤ i → i < z → f i = g i) (k : Int) : plN w a n z f k = plN w a n z g k := by
  unfold plN
  by_cases c5 : 1000 * a + 21060 ≤ k ∧ k < 1000 * a + 22060
  · by_cases c6 : k - (1000 * a + 21060) < z
    · rw [if_pos c5, if_pos c5, if_pos c6, if_pos c6, h _ (by omega) c6]
    · rw [if_pos c5, if_pos c5, if_neg c6, if_neg c6]
  · rw [if_neg c5, if_neg c5]
end
end
