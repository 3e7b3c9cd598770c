noncomputable section
/-! the class: names and code, exactly -/
section FER
variable {fd : Nat} {lay : List eY} {code : Nat → Nat → eE} {I : Nat → xM} {d M N p nx a b : Nat} {l : eL} {r : List eV} {w : eW} {Q : List eV → eW → Prop}
theorem e_Pn.shl6 (hN : e_Alk lay code) {x : Int} (hc : code M p = (0, ei_bin (eB (fun x y => x <<< (y &&& 31))) nx, a, b)) (hx : 0 ≤ x ∧ x < 33554432) (h : ∀ z, z = x * 64 → e_Pn fd lay code I N d M (nx, l, (0, z) :: r, w) Q) : e_Pn fd lay code I N d M (p, l, (0, 6) :: (0, x) :: r, w) Q := by
  refine e_Pn.step hN hc (fun t' q => ?_)
  replace q : some (nx, l, (0, (Int32.ofInt x <<< (Int32.ofInt 6 &&& 31)).toInt) :: r, w) = some t' := q
  obtain ⟨n, rfl⟩ : ∃ n : Nat, x = n := ⟨x.toNat, by omega⟩
  rw [show (Int32.ofInt 6) = Int32.ofInt ((6 : Nat) : Int) from rfl, e_shl32 6 (by decide) (by omega)] at q
  cases q
  exact h _ rfl
theorem e_Pn.or6 (hN : e_Alk lay code) {x y : Int} (hc : code M p = (0, ei_bin (eB (fun x y => x ||| y)) nx, a, b)) (hx : 0 ≤ x ∧ x ≤ 2147483647 ∧ x % 64 = 0) (hy : 0 ≤ y ∧ y < 64) (h : ∀ z, z = x + y → e_Pn fd lay code I N d M (nx, l, (0, z) :: r, w) Q) : e_Pn fd lay code I N d M (p, l, (0, y) :: (0, x) :: r, w) Q := by
  refine e_Pn.step hN hc (fun t' q => ?_)
  replace q : some (nx, l, (0, (Int32.ofInt x ||| Int32.ofInt y).toInt) :: r, w) = some t' := q
  obtain ⟨m, rfl⟩ : ∃ m : Nat, x = ((2 ^ 6 * m : Nat) : Int) := ⟨(x / 64).toNat, by omega⟩
  obtain ⟨n, rfl⟩ : ∃ n : Nat, y = n := ⟨y.toNat, by omega⟩
  rw [e_or32 6 (by omega) (by omega)] at q
  cases q
  exact h _ rfl
theorem e_Pn.andm (hN : e_Alk lay code) {x : Int} (m : Int) (k : Nat) (hc : code M p = (0, ei_bin (eB (fun x y => x &&& y)) nx, a, b)) (hk : k < 32 ∧ m = 2 ^ k - 1) (h : ∀ z, z = x % (m + 1) → e_Pn fd lay code I N d M (nx, l, (0, z) :: r, w) Q) : e_Pn fd lay code I N d M (p, l, (0, m) :: (0, x) :: r, w) Q := by
  refine e_Pn.step hN hc (fun t' q => ?_)
  replace q : some (nx, l, (0, (Int32.ofInt x &&& Int32.ofInt m).toInt) :: r, w) = some t' := q
  rw [e_and32 x m k hk.1 hk.2] at q
  cases q
  exact h _ rfl
theorem e_Pn.shr6 (hN : e_Alk lay code) {x : Int} (hc : code M p = (0, ei_bin (eB (fun x y => x >>> (y &&& 31))) nx, a, b)) (hx : -2147483648 ≤ x ∧ x ≤ 2147483647) (h : ∀ z, z = x / 64 → e_Pn fd lay code I N d M (nx, l, (0, z) :: r, w) Q) : e_Pn fd lay code I N d M (p, l, (0, 6) :: (0, x) :: r, w) Q := by
  refine e_Pn.step hN hc (fun t' q => ?_)
  replace q : some (nx, l, (0, (Int32.ofInt x >>> (Int32.ofInt 6 &&& 31)).toInt) :: r, w) = some t' := q
  rw [show (Int32.ofInt 6) = Int32.ofInt ((6 : Nat) : Int) from rfl, e_shr32 6 (by decide) hx] at q
  cases q
  exact h _ rfl
theorem e_Pn.shr16 (hN : e_Alk lay code) {x : Int} (hc : code M p = (0, ei_bin (eB (fun x y => x >>> (y &&& 31))) nx, a, b)) (hx : -2147483648 ≤ x ∧ x ≤ 2147483647) (h : ∀ z, z = x / 65536 → e_Pn fd lay code I N d M (nx, l, (0, z) :: r, w) Q) : e_Pn fd lay code I N d M (p, l, (0, 16) :: (0, x) :: r, w) Q := by
  refine e_Pn.step hN hc (fun t' q => ?_)
  replace q : some (nx, l, (0, (Int32.ofInt x >>> (Int32.ofInt 16 &&& 31)).toInt) :: r, w) = some t' := q
  rw [show (Int32.ofInt 16) = Int32.ofInt ((16 : Nat) : Int) from rfl, e_shr32 16 (by decide) hx] at q
  cases q
  exact h _ rfl
theorem e_Pn.mmax (hN : e_Alk lay code) {x y : Int} (hc : code M p = (0, ei_m2 eM_max nx, a, b)) (h : ∀ z, ((x < y ∧ z = y) ∨ (y ≤ x ∧ z = x)) → e_Pn fd lay code I N d M (nx, l, (0, z) :: r, w) Q) : e_Pn fd lay code I N d M (p, l, (0, y) :: (0, x) :: r, w) Q := by
  refine e_Pn.step hN hc (fun t' q => ?_)
  unfold ei_m2 at q
  simp only at q
  cases g : Nat.ble (e_cats r) 8 with
  | false => rw [g] at q; cases q
  | true => rw [g] at q; cases q; exact h _ (by
    unfold eM_max
    by_cases q : x < y
    · rw [decide_eq_true q]; exact Or.inl ⟨q, rfl⟩
    · rw [decide_eq_false q]; exact Or.inr ⟨by omega, rfl⟩)
theorem e_Pn.mmin (hN : e_Alk lay code) {x y : Int} (hc : code M p = (0, ei_m2 eM_min nx, a, b)) (h : ∀ z, ((y < x ∧ z = y) ∨ (x ≤ y ∧ z = x)) → e_Pn fd lay code I N d M (nx, l, (0, z) :: r, w) Q) : e_Pn fd lay code I N d M (p, l, (0, y) :: (0, x) :: r, w) Q := by
  refine e_Pn.step hN hc (fun t' q => ?_)
  unfold ei_m2 at q
  simp only at q
  cases g : Nat.ble (e_cats r) 8 with
  | false => rw [g] at q; cases q
  | true => rw [g] at q; cases q; exact h _ (by
    unfold eM_min
    by_cases q : y < x
    · rw [decide_eq_true q]; exact Or.inl ⟨q, rfl⟩
    · rw [decide_eq_false q]; exact Or.inr ⟨by omega, rfl⟩)
end FER
theorem l_21 {n d : Nat} {w : eW} {cd : Int} (hR : kRw cd w) {op od : Int} (g1 : 0 ≤ op ∧ op ≤ 63) (g2 : 0 ≤ od ∧ od ≤ 33554431) (hl : 0 ≤ w cd 0 ∧ w cd 0 ≤ 4000) : e_Pn 20 elay kcode eI n d 21 (0, [(0, (1, cd)), (1, (0, op)), (2, (0, od))], [], w) (fun r w' => ∃ z : Int, r = [(0, z)] ∧ e_fr (kEm cd) w w' ∧ emQ w w' cd op od z) := by
  have hn := hR.1.n
  refine e_Pn.run (t' := (1, [(0, (1, cd)), (1, (0, op)), (2, (0, od))], [(1, cd)], w)) kAlk 1 rfl ?_
  refine e_Pn.getf (z := w cd 0) kAlk rfl rfl rfl (fun b1 => ?_)
  refine e_Pn.run (t' := (7, [(0, (1, cd)), (1, (0, op)), (2, (0, od))], [(0, 4000), (0, w cd 0)], w)) kAlk 1 rfl ?_
  refine e_Pn.if2 kAlk rfl (fun h2 => ?_) (fun h2 => ?_)
  · replace h2 : (w cd 0 : Int) < 4000 := h2
    show e_Pn 20 elay kcode eI n d 21 (17, [(0, (1, cd)), (1, (0, op)), (2, (0, od))], [], w) _
    refine e_Pn.run (t' := (18, [(0, (1, cd)), (1, (0, op)), (2, (0, od))], [(1, cd)], w)) kAlk 1 rfl ?_
    refine e_Pn.getr (z := cd + 2) kAlk rfl rfl hR.2.2.2.2.2.2 (by omega) ?_
    refine e_Pn.run (t' := (22, [(0, (1, cd)), (1, (0, op)), (2, (0, od))], [(1, cd), (1, cd + 2)], w)) kAlk 1 rfl ?_
    refine e_Pn.getf (z := w cd 0) kAlk rfl rfl rfl (fun b3 => ?_)
    refine e_Pn.run (t' := (28, [(0, (1, cd)), (1, (0, op)), (2, (0, od))], [(0, 6), (0, od), (0, w cd 0), (1, cd + 2)], w)) kAlk 2 rfl ?_
    refine e_Pn.shl6 kAlk rfl (by omega) (fun z4 hz4 => ?_)
    replace hz4 : z4 = od * 64 := hz4
    refine e_Pn.run (t' := (30, [(0, (1, cd)), (1, (0, op)), (2, (0, od))], [(0, op), (0, z4), (0, w cd 0), (1, cd + 2)], w)) kAlk 1 rfl ?_
    refine e_Pn.or6 kAlk rfl (by omega) (by omega) (fun z5 hz5 => ?_)
    replace hz5 : z5 = z4 + op := hz5
    refine e_Pn.ast kAlk rfl (lD2 (d := cd) (by omega) hR.1) rfl (fun b6 b7 => ?_)
    generalize hw8 : e_up w (cd + 2) (w cd 0) z5 = w8
    refine e_Pn.run (t' := (34, [(0, (1, cd)), (1, (0, op)), (2, (0, od))], [(1, cd), (1, cd)], w8)) kAlk 2 rfl ?_
    refine e_Pn.getf (z := w cd 0) kAlk rfl rfl (by rw [← hw8]; exact (e_up_ne _ _ (Or.inl (by omega))).trans rfl) (fun b9 => ?_)
    refine e_Pn.run (t' := (38, [(0, (1, cd)), (1, (0, op)), (2, (0, od))], [(0, 1), (0, w cd 0), (1, cd)], w8)) kAlk 1 rfl ?_
    refine e_Pn.add (z := w cd 0 + 1) kAlk rfl (by omega) (by omega) ?_
    refine e_Pn.putf kAlk rfl rfl ?_
    generalize hw10 : e_up w8 cd 0 (w cd 0 + 1) = w10
    refine e_Pn.run (t' := (43, [(0, (1, cd)), (1, (0, op)), (2, (0, od))], [(1, cd)], w10)) kAlk 1 rfl ?_
    refine e_Pn.getf (z := w cd 0 + 1) kAlk rfl rfl (by rw [← hw10]; exact e_up_eq _ _ _ _) (fun b11 => ?_)
    refine e_Pn.run (t' := (47, [(0, (1, cd)), (1, (0, op)), (2, (0, od))], [(0, 1), (0, w cd 0 + 1)], w10)) kAlk 1 rfl ?_
    refine e_Pn.sub' (z := w cd 0) kAlk rfl (by omega) (by omega) ?_
    refine e_Pn.ret1 rfl ?_
    have y0 : w10 cd 0 = w cd 0 + 1 := (by rw [← hw10]; exact e_up_eq _ _ _ _)
    have y1 : w10 (cd + 2) (w cd 0) = z5 := (by rw [← hw10]; exact (e_up_ne _ _ (Or.inl (by omega))).trans (by rw [← hw8]; exact e_up_eq _ _ _ _))
    have y2 : ∀ k, k ≠ w cd 0 → w10 (cd + 2) k = w (cd + 2) k := fun k g => by rw [← hw10, ← hw8]; exact (e_up_ne _ _ (Or.inl (by omega))).trans (e_up_ne _ _ (Or.inr g))
    exact ⟨_, rfl, e_fr.up (e_fr.up (e_fr.refl w) hw8 (by unfold kEm; omega)) hw10 (by unfold kEm; omega), Or.inl ⟨by omega, y0, by omega, by omega, y2⟩⟩
  · replace h2 : (w cd 0 : Int) ≥ 4000 := by have q : ¬ ((w cd 0 : Int) < 4000) := h2; omega
    show e_Pn 20 elay kcode eI n d 21 (10, [(0, (1, cd)), (1, (0, op)), (2, (0, od))], [], w) _
    refine e_Pn.run (t' := (11, [(0, (1, cd)), (1, (0, op)), (2, (0, od))], [(1, cd)], w)) kAlk 1 rfl ?_
    refine e_Pn.getf (z := w cd 0) kAlk rfl rfl rfl (fun b12 => ?_)
    refine e_Pn.run (t' := (15, [(0, (1, cd)), (1, (0, op)), (2, (0, od))], [(0, 1), (0, w cd 0)], w)) kAlk 1 rfl ?_
    refine e_Pn.sub' (z := w cd 0 - 1) kAlk rfl (by omega) (by omega) ?_
    refine e_Pn.ret1 rfl ?_
    exact ⟨_, rfl, e_fr.refl w, Or.inr ⟨by omega, rfl, by omega⟩⟩
theorem l_22 {n d : Nat} {w : eW} {cd : Int} (hR : kRw cd w) {x od : Int} (g2 : 0 ≤ od ∧ od ≤ 33554431) : e_Pn 20 elay kcode eI n d 22 (0, [(0, (1, cd)), (1, (0, x)), (2, (0, od))], [], w) (fun r w' => r = [] ∧ e_fr (kPa cd) w w' ∧ paQ w w' cd x od) := by
  have hn := hR.1.n
  refine e_Pn.run (t' := (1, [(0, (1, cd)), (1, (0, x)), (2, (0, od))], [(0, x)], w)) kAlk 1 rfl ?_
  refine e_Pn.if1 kAlk rfl (fun h1 => ?_) (fun h1 => ?_)
  · replace h1 : (x : Int) < 0 := h1
    show e_Pn 20 elay kcode eI n d 22 (32, [(0, (1, cd)), (1, (0, x)), (2, (0, od))], [], w) _
    refine e_Pn.ret0 rfl ?_
    exact ⟨rfl, e_fr.refl w, Or.inr ⟨by omega, rfl⟩⟩
  · replace h1 : (x : Int) ≥ 0 := by have q : ¬ ((x : Int) < 0) := h1; omega
    show e_Pn 20 elay kcode eI n d 22 (4, [(0, (1, cd)), (1, (0, x)), (2, (0, od))], [], w) _
    refine e_Pn.run (t' := (6, [(0, (1, cd)), (1, (0, x)), (2, (0, od))], [(1, cd), (0, x)], w)) kAlk 2 rfl ?_
    refine e_Pn.getf (z := w cd 0) kAlk rfl rfl rfl (fun b2 => ?_)
    refine e_Pn.if2 kAlk rfl (fun h3 => ?_) (fun h3 => ?_)
    · replace h3 : (x : Int) ≥ w cd 0 := h3
      show e_Pn 20 elay kcode eI n d 22 (32, [(0, (1, cd)), (1, (0, x)), (2, (0, od))], [], w) _
      refine e_Pn.ret0 rfl ?_
      exact ⟨rfl, e_fr.refl w, Or.inr ⟨by omega, rfl⟩⟩
    · replace h3 : (x : Int) < w cd 0 := by have q : ¬ ((x : Int) ≥ w cd 0) := h3; omega
      show e_Pn 20 elay kcode eI n d 22 (12, [(0, (1, cd)), (1, (0, x)), (2, (0, od))], [], w) _
      refine e_Pn.run (t' := (13, [(0, (1, cd)), (1, (0, x)), (2, (0, od))], [(1, cd)], w)) kAlk 1 rfl ?_
      refine e_Pn.getr (z := cd + 2) kAlk rfl rfl hR.2.2.2.2.2.2 (by omega) ?_
      refine e_Pn.run (t' := (20, [(0, (1, cd)), (1, (0, x)), (2, (0, od))], [(0, 6), (0, od), (0, x), (1, cd + 2)], w)) kAlk 3 rfl ?_
      refine e_Pn.shl6 kAlk rfl (by omega) (fun z4 hz4 => ?_)
      replace hz4 : z4 = od * 64 := hz4
      refine e_Pn.run (t' := (22, [(0, (1, cd)), (1, (0, x)), (2, (0, od))], [(1, cd), (0, z4), (0, x), (1, cd + 2)], w)) kAlk 1 rfl ?_
      refine e_Pn.getr (z := cd + 2) kAlk rfl rfl hR.2.2.2.2.2.2 (by omega) ?_
      refine e_Pn.run (t' := (26, [(0, (1, cd)), (1, (0, x)), (2, (0, od))], [(0, x), (1, cd + 2), (0, z4), (0, x), (1, cd + 2)], w)) kAlk 1 rfl ?_
      refine e_Pn.ald (z := w (cd + 2) x) kAlk rfl rfl (fun b5 b6 => ?_)
      refine e_Pn.run (t' := (29, [(0, (1, cd)), (1, (0, x)), (2, (0, od))], [(0, 63), (0, w (cd + 2) x), (0, z4), (0, x), (1, cd + 2)], w)) kAlk 1 rfl ?_
      refine e_Pn.andm kAlk 63 6 rfl (by decide) (fun z7 hz7 => ?_)
      replace hz7 : z7 = (w (cd + 2) x) % 64 := hz7
      refine e_Pn.or6 kAlk rfl (by omega) (by omega) (fun z8 hz8 => ?_)
      replace hz8 : z8 = z4 + z7 := hz8
      refine e_Pn.ast kAlk rfl (lD2 (d := cd) (by omega) hR.1) rfl (fun b9 b10 => ?_)
      generalize hw11 : e_up w (cd + 2) x z8 = w11
      refine e_Pn.ret0 rfl ?_
      have y1 : w11 (cd + 2) x = z8 := (by rw [← hw11]; exact e_up_eq _ _ _ _)
      exact ⟨rfl, e_fr.up (e_fr.refl w) hw11 (by unfold kPa; omega), Or.inl ⟨by omega, by omega, by omega, fun k g => by rw [← hw11]; exact e_up_ne _ _ (Or.inr g)⟩⟩
theorem l_133 {n d : Nat} {w : eW} {x y : Int} : e_Pn 20 elay kcode eI n d 133 (0, [(0, (1, 1)), (1, (0, x)), (2, (0, y))], [], w) (fun r w' => r = [] ∧ cplQ w w' x y) := by
  refine e_Pn.run (t' := (1, [(0, (1, 1)), (1, (0, x)), (2, (0, y))], [(1, 1)], w)) kAlk 1 rfl ?_
  refine e_Pn.getf (z := w 1 9) kAlk rfl rfl rfl (fun b1 => ?_)
  refine e_Pn.if1 kAlk rfl (fun h2 => ?_) (fun h2 => ?_)
  · replace h2 : (w 1 9 : Int) = 0 := h2
    show e_Pn 20 elay kcode eI n d 133 (15, [(0, (1, 1)), (1, (0, x)), (2, (0, y))], [], w) _
    refine e_Pn.run (t' := (22, [(3, (0, 1)), (0, (1, 1)), (1, (0, x)), (2, (0, y))], [(0, 1)], w)) kAlk 4 rfl ?_
    refine e_Pn.if1 kAlk rfl (fun h3 => ?_) (fun h3 => ?_)
    · replace h3 : (1 : Int) ≠ 0 := h3
      show e_Pn 20 elay kcode eI n d 133 (42, [(3, (0, 1)), (0, (1, 1)), (1, (0, x)), (2, (0, y))], [], w) _
      refine e_Pn.run (t' := (44, [(3, (0, 1)), (0, (1, 1)), (1, (0, x)), (2, (0, y))], [(0, x), (1, 1)], w)) kAlk 2 rfl ?_
      refine e_Pn.putf kAlk rfl rfl ?_
      generalize hw4 : e_up w 1 9 x = w4
      refine e_Pn.run (t' := (49, [(3, (0, 1)), (0, (1, 1)), (1, (0, x)), (2, (0, y))], [(0, y), (1, 1)], w4)) kAlk 2 rfl ?_
      refine e_Pn.putf kAlk rfl rfl ?_
      generalize hw5 : e_up w4 1 10 y = w5
      refine e_Pn.ret0 rfl ?_
      exact ⟨rfl, Or.inl ⟨by omega, by rw [← hw5, ← hw4]⟩⟩
    · replace h3 : (1 : Int) = 0 := by have q : ¬ ((1 : Int) ≠ 0) := h3; omega
      exfalso; omega
  · replace h2 : (w 1 9 : Int) ≠ 0 := by have q : ¬ ((w 1 9 : Int) = 0) := h2; omega
    show e_Pn 20 elay kcode eI n d 133 (7, [(0, (1, 1)), (1, (0, x)), (2, (0, y))], [], w) _
    refine e_Pn.run (t' := (9, [(0, (1, 1)), (1, (0, x)), (2, (0, y))], [(1, 1), (0, y)], w)) kAlk 2 rfl ?_
    refine e_Pn.getf (z := w 1 10) kAlk rfl rfl rfl (fun b6 => ?_)
    refine e_Pn.if2 kAlk rfl (fun h7 => ?_) (fun h7 => ?_)
    · replace h7 : (y : Int) ≥ w 1 10 := h7
      show e_Pn 20 elay kcode eI n d 133 (19, [(0, (1, 1)), (1, (0, x)), (2, (0, y))], [], w) _
      refine e_Pn.run (t' := (22, [(3, (0, 0)), (0, (1, 1)), (1, (0, x)), (2, (0, y))], [(0, 0)], w)) kAlk 3 rfl ?_
      refine e_Pn.if1 kAlk rfl (fun h8 => ?_) (fun h8 => ?_)
      · replace h8 : (0 : Int) ≠ 0 := h8
        exfalso; omega
      · replace h8 : (0 : Int) = 0 := by have q : ¬ ((0 : Int) ≠ 0) := h8; omega
        show e_Pn 20 elay kcode eI n d 133 (25, [(3, (0, 0)), (0, (1, 1)), (1, (0, x)), (2, (0, y))], [], w) _
        refine e_Pn.run (t' := (27, [(3, (0, 0)), (0, (1, 1)), (1, (0, x)), (2, (0, y))], [(1, 1), (0, y)], w)) kAlk 2 rfl ?_
        refine e_Pn.getf (z := w 1 10) kAlk rfl rfl rfl (fun b9 => ?_)
        refine e_Pn.if2 kAlk rfl (fun h10 => ?_) (fun h10 => ?_)
        · replace h10 : (y : Int) > w 1 10 := h10
          show e_Pn 20 elay kcode eI n d 133 (41, [(3, (0, 0)), (0, (1, 1)), (1, (0, x)), (2, (0, y))], [], w) _
          refine e_Pn.ret0 rfl ?_
          exact ⟨rfl, Or.inr ⟨by omega, by omega, rfl⟩⟩
        · replace h10 : (y : Int) ≤ w 1 10 := by have q : ¬ ((y : Int) > w 1 10) := h10; omega
          show e_Pn 20 elay kcode eI n d 133 (33, [(3, (0, 0)), (0, (1, 1)), (1, (0, x)), (2, (0, y))], [], w) _
          refine e_Pn.run (t' := (35, [(3, (0, 0)), (0, (1, 1)), (1, (0, x)), (2, (0, y))], [(1, 1), (0, x)], w)) kAlk 2 rfl ?_
          refine e_Pn.getf (z := w 1 9) kAlk rfl rfl rfl (fun b11 => ?_)
          refine e_Pn.if2 kAlk rfl (fun h12 => ?_) (fun h12 => ?_)
          · replace h12 : (x : Int) ≤ w 1 9 := h12
            show e_Pn 20 elay kcode eI n d 133 (42, [(3, (0, 0)), (0, (1, 1)), (1, (0, x)), (2, (0, y))], [], w) _
            refine e_Pn.run (t' := (44, [(3, (0, 0)), (0, (1, 1)), (1, (0, x)), (2, (0, y))], [(0, x), (1, 1)], w)) kAlk 2 rfl ?_
            refine e_Pn.putf kAlk rfl rfl ?_
            generalize hw13 : e_up w 1 9 x = w13
            refine e_Pn.run (t' := (49, [(3, (0, 0)), (0, (1, 1)), (1, (0, x)), (2, (0, y))], [(0, y), (1, 1)], w13)) kAlk 2 rfl ?_
            refine e_Pn.putf kAlk rfl rfl ?_
            generalize hw14 : e_up w13 1 10 y = w14
            refine e_Pn.ret0 rfl ?_
            exact ⟨rfl, Or.inl ⟨by omega, by rw [← hw14, ← hw13]⟩⟩
          · replace h12 : (x : Int) > w 1 9 := by have q : ¬ ((x : Int) ≤ w 1 9) := h12; omega
            show e_Pn 20 elay kcode eI n d 133 (41, [(3, (0, 0)), (0, (1, 1)), (1, (0, x)), (2, (0, y))], [], w) _
            refine e_Pn.ret0 rfl ?_
            exact ⟨rfl, Or.inr ⟨by omega, by omega, rfl⟩⟩
    · replace h7 : (y : Int) < w 1 10 := by have q : ¬ ((y : Int) ≥ w 1 10) := h7; omega
      show e_Pn 20 elay kcode eI n d 133 (15, [(0, (1, 1)), (1, (0, x)), (2, (0, y))], [], w) _
      refine e_Pn.run (t' := (22, [(3, (0, 1)), (0, (1, 1)), (1, (0, x)), (2, (0, y))], [(0, 1)], w)) kAlk 4 rfl ?_
      refine e_Pn.if1 kAlk rfl (fun h15 => ?_) (fun h15 => ?_)
      · replace h15 : (1 : Int) ≠ 0 := h15
        show e_Pn 20 elay kcode eI n d 133 (42, [(3, (0, 1)), (0, (1, 1)), (1, (0, x)), (2, (0, y))], [], w) _
        refine e_Pn.run (t' := (44, [(3, (0, 1)), (0, (1, 1)), (1, (0, x)), (2, (0, y))], [(0, x), (1, 1)], w)) kAlk 2 rfl ?_
        refine e_Pn.putf kAlk rfl rfl ?_
        generalize hw16 : e_up w 1 9 x = w16
        refine e_Pn.run (t' := (49, [(3, (0, 1)), (0, (1, 1)), (1, (0, x)), (2, (0, y))], [(0, y), (1, 1)], w16)) kAlk 2 rfl ?_
        refine e_Pn.putf kAlk rfl rfl ?_
        generalize hw17 : e_up w16 1 10 y = w17
        refine e_Pn.ret0 rfl ?_
        exact ⟨rfl, Or.inl ⟨by omega, by rw [← hw17, ← hw16]⟩⟩
      · replace h15 : (1 : Int) = 0 := by have q : ¬ ((1 : Int) ≠ 0) := h15; omega
        exfalso; omega
theorem l_134 {n d : Nat} {w : eW} (hT : e_Has kLt w) (hH : e_Has kLr w) {N : Int} (hN : w 1 0 = N) {p x : Int} (g_p : 0 ≤ p ∧ p ≤ 4000) (g_x : 0 ≤ x ∧ x ≤ 4000) (hw : wl (w 5) N p ≤ 24) : e_Pn 20 elay kcode eI n d 134 (0, [(0, (1, 1)), (1, (0, p)), (2, (0, x))], [], w) (fun r w' => ∃ z : Int, r = [(0, z)] ∧ w = w' ∧ ((z = 1 ∧ snm (w 5) N p x) ∨ (z = 0 ∧ ¬ snm (w 5) N p x))) := by
  refine e_Pn.run (t' := (2, [(3, (0, 0)), (0, (1, 1)), (1, (0, p)), (2, (0, x))], [], w)) kAlk 2 rfl ?_
  have hL1 : ∀ nn3 : Nat, nn3 ≤ n → ∀ (tl4 : eL) (y3 : Int), (0 ≤ y3 ∧ y3 ≤ 24) ∧ (snJ (w 5) N p x y3) → e_Pn 20 elay kcode eI nn3 d 134 (2, (0, (1, 1)) :: (1, (0, p)) :: (2, (0, x)) :: (3, (0, y3)) :: tl4, [], w) (fun r w' => ∃ z : Int, r = [(0, z)] ∧ w = w' ∧ ((z = 1 ∧ snm (w 5) N p x) ∨ (z = 0 ∧ ¬ snm (w 5) N p x))) := by
    intro nn3
    induction nn3 with
    | zero => intro _ tl4 y3 _; exact e_Pn.zero
    | succ nn3 ih2 =>
      intro hnnn3 tl4 y3 hj
      obtain ⟨j5, j6⟩ := hj
      refine e_Pn.runS (t' := (5, (0, (1, 1)) :: (1, (0, p)) :: (2, (0, x)) :: (3, (0, y3)) :: tl4, [(0, 24), (0, y3)], w)) kAlk 1 rfl ?_
      refine e_Pn.if2 kAlk rfl (fun h7 => ?_) (fun h7 => ?_)
      · replace h7 : (y3 : Int) ≥ 24 := h7
        show e_Pn 20 elay kcode eI nn3 d 134 (44, (0, (1, 1)) :: (1, (0, p)) :: (2, (0, x)) :: (3, (0, y3)) :: tl4, [], w) _
        refine e_Pn.run (t' := (47, (0, (1, 1)) :: (1, (0, p)) :: (2, (0, x)) :: (3, (0, y3)) :: tl4, [(0, y3), (0, p), (1, 1)], w)) kAlk 3 rfl ?_
        refine e_Pn.add (z := p + y3) kAlk rfl (by omega) (by omega) ?_
        refine e_Pn.callA rfl (fun nq dq => e_Ok.pnA (D0 := 600) (fun D hD => l_120 hT hH (by omega)) nq dq) (fun r8 w9 h10 => ?_)
        obtain ⟨z11, rfl, rfl, z11r, z11q⟩ := h10
        rw [hN] at z11q
        have z11e : byT (w 5) N (p + y3) = z11 := byT_of z11q (by omega)
        clear z11q
        subst z11e
        show e_Pn 20 elay kcode eI nn3 d 134 (51, (0, (1, 1)) :: (1, (0, p)) :: (2, (0, x)) :: (3, (0, y3)) :: tl4, [(0, byT (w 5) N (p + y3))], w) _
        refine e_Pn.callA rfl (fun nq dq => e_Ok.pnA (D0 := 600) (fun D hD => c_122 (by omega)) nq dq) (fun r12 w13 h14 => ?_)
        obtain ⟨z15, rfl, rfl, z15q⟩ := h14
        replace z15q : (z15 = 1 ∧ nmB (byT (w 5) N (p + y3))) ∨ (z15 = 0 ∧ ¬ nmB (byT (w 5) N (p + y3))) := by unfold nmB; omega
        obtain ⟨z15a, z15b⟩ : (z15 = 1 ↔ nmB (byT (w 5) N (p + y3))) ∧ (0 ≤ z15 ∧ z15 ≤ 1) := by rcases z15q with ⟨g, g2⟩ | ⟨g, g2⟩; exact ⟨⟨fun _ => g2, fun _ => g⟩, by omega⟩; exact ⟨⟨fun q => absurd q (by omega), fun q => absurd q g2⟩, by omega⟩
        clear z15q
        show e_Pn 20 elay kcode eI nn3 d 134 (54, (0, (1, 1)) :: (1, (0, p)) :: (2, (0, x)) :: (3, (0, y3)) :: tl4, [(0, z15)], w) _
        refine e_Pn.if1 kAlk rfl (fun h16 => ?_) (fun h16 => ?_)
        · replace h16 : (z15 : Int) ≠ 0 := h16
          show e_Pn 20 elay kcode eI nn3 d 134 (74, (0, (1, 1)) :: (1, (0, p)) :: (2, (0, x)) :: (3, (0, y3)) :: tl4, [], w) _
          refine e_Pn.run (t' := (75, (0, (1, 1)) :: (1, (0, p)) :: (2, (0, x)) :: (3, (0, y3)) :: tl4, [(0, 0)], w)) kAlk 1 rfl ?_
          refine e_Pn.ret4 rfl ?_
          exact ⟨_, rfl, rfl, by first | exact Or.inl ⟨rfl, snJ.yes j6 (by omega) (fun q => by have := z15a.mpr q; omega) (fun q => by have := z15a.mpr q; omega)⟩ | exact Or.inr ⟨rfl, snJ.no1 j6 (by omega) (z15a.mp (by omega)) (by omega)⟩ | exact Or.inr ⟨rfl, snJ.no2 j6 (by omega) (fun q => by have := z15a.mpr q; omega) (z15a.mp (by omega))⟩ | exact (snJ.no3 j6 (by omega) hw (z15a.mp (by omega))).elim | (exfalso; omega)⟩
        · replace h16 : (z15 : Int) = 0 := by have q : ¬ ((z15 : Int) ≠ 0) := h16; omega
          show e_Pn 20 elay kcode eI nn3 d 134 (57, (0, (1, 1)) :: (1, (0, p)) :: (2, (0, x)) :: (3, (0, y3)) :: tl4, [], w) _
          refine e_Pn.run (t' := (60, (0, (1, 1)) :: (1, (0, p)) :: (2, (0, x)) :: (3, (0, y3)) :: tl4, [(0, y3), (0, x), (1, 1)], w)) kAlk 3 rfl ?_
          refine e_Pn.add (z := x + y3) kAlk rfl (by omega) (by omega) ?_
          refine e_Pn.callA rfl (fun nq dq => e_Ok.pnA (D0 := 600) (fun D hD => l_120 hT hH (by omega)) nq dq) (fun r17 w18 h19 => ?_)
          obtain ⟨z20, rfl, rfl, z20r, z20q⟩ := h19
          rw [hN] at z20q
          have z20e : byT (w 5) N (x + y3) = z20 := byT_of z20q (by omega)
          clear z20q
          subst z20e
          show e_Pn 20 elay kcode eI nn3 d 134 (64, (0, (1, 1)) :: (1, (0, p)) :: (2, (0, x)) :: (3, (0, y3)) :: tl4, [(0, byT (w 5) N (x + y3))], w) _
          refine e_Pn.callA rfl (fun nq dq => e_Ok.pnA (D0 := 600) (fun D hD => c_122 (by omega)) nq dq) (fun r21 w22 h23 => ?_)
          obtain ⟨z24, rfl, rfl, z24q⟩ := h23
          replace z24q : (z24 = 1 ∧ nmB (byT (w 5) N (x + y3))) ∨ (z24 = 0 ∧ ¬ nmB (byT (w 5) N (x + y3))) := by unfold nmB; omega
          obtain ⟨z24a, z24b⟩ : (z24 = 1 ↔ nmB (byT (w 5) N (x + y3))) ∧ (0 ≤ z24 ∧ z24 ≤ 1) := by rcases z24q with ⟨g, g2⟩ | ⟨g, g2⟩; exact ⟨⟨fun _ => g2, fun _ => g⟩, by omega⟩; exact ⟨⟨fun q => absurd q (by omega), fun q => absurd q g2⟩, by omega⟩
          clear z24q
          show e_Pn 20 elay kcode eI nn3 d 134 (67, (0, (1, 1)) :: (1, (0, p)) :: (2, (0, x)) :: (3, (0, y3)) :: tl4, [(0, z24)], w) _
          refine e_Pn.if1 kAlk rfl (fun h25 => ?_) (fun h25 => ?_)
          · replace h25 : (z24 : Int) ≠ 0 := h25
            show e_Pn 20 elay kcode eI nn3 d 134 (74, (0, (1, 1)) :: (1, (0, p)) :: (2, (0, x)) :: (3, (0, y3)) :: tl4, [], w) _
            refine e_Pn.run (t' := (75, (0, (1, 1)) :: (1, (0, p)) :: (2, (0, x)) :: (3, (0, y3)) :: tl4, [(0, 0)], w)) kAlk 1 rfl ?_
            refine e_Pn.ret4 rfl ?_
            exact ⟨_, rfl, rfl, by first | exact Or.inl ⟨rfl, snJ.yes j6 (by omega) (fun q => by have := z15a.mpr q; omega) (fun q => by have := z24a.mpr q; omega)⟩ | exact Or.inr ⟨rfl, snJ.no1 j6 (by omega) (z24a.mp (by omega)) (by omega)⟩ | exact Or.inr ⟨rfl, snJ.no2 j6 (by omega) (fun q => by have := z15a.mpr q; omega) (z24a.mp (by omega))⟩ | exact (snJ.no3 j6 (by omega) hw (z24a.mp (by omega))).elim | (exfalso; have q1 := z15a.trans z24a.symm; omega)⟩
          · replace h25 : (z24 : Int) = 0 := by have q : ¬ ((z24 : Int) ≠ 0) := h25; omega
            show e_Pn 20 elay kcode eI nn3 d 134 (70, (0, (1, 1)) :: (1, (0, p)) :: (2, (0, x)) :: (3, (0, y3)) :: tl4, [], w) _
            refine e_Pn.run (t' := (75, (0, (1, 1)) :: (1, (0, p)) :: (2, (0, x)) :: (3, (0, y3)) :: tl4, [(0, 1)], w)) kAlk 2 rfl ?_
            refine e_Pn.ret4 rfl ?_
            exact ⟨_, rfl, rfl, by first | exact Or.inl ⟨rfl, snJ.yes j6 (by omega) (fun q => by have := z15a.mpr q; omega) (fun q => by have := z24a.mpr q; omega)⟩ | exact Or.inr ⟨rfl, snJ.no1 j6 (by omega) (z24a.mp (by omega)) (by omega)⟩ | exact Or.inr ⟨rfl, snJ.no2 j6 (by omega) (fun q => by have := z15a.mpr q; omega) (z24a.mp (by omega))⟩ | exact (snJ.no3 j6 (by omega) hw (z24a.mp (by omega))).elim | (exfalso; have q1 := z15a.trans z24a.symm; omega)⟩
      · replace h7 : (y3 : Int) < 24 := by have q : ¬ ((y3 : Int) ≥ 24) := h7; omega
        show e_Pn 20 elay kcode eI nn3 d 134 (8, (0, (1, 1)) :: (1, (0, p)) :: (2, (0, x)) :: (3, (0, y3)) :: tl4, [], w) _
        refine e_Pn.run (t' := (11, (0, (1, 1)) :: (1, (0, p)) :: (2, (0, x)) :: (3, (0, y3)) :: tl4, [(0, y3), (0, p), (1, 1)], w)) kAlk 3 rfl ?_
        refine e_Pn.add (z := p + y3) kAlk rfl (by omega) (by omega) ?_
        refine e_Pn.callA rfl (fun nq dq => e_Ok.pnA (D0 := 600) (fun D hD => l_120 hT hH (by omega)) nq dq) (fun r26 w27 h28 => ?_)
        obtain ⟨z29, rfl, rfl, z29r, z29q⟩ := h28
        rw [hN] at z29q
        have z29e : byT (w 5) N (p + y3) = z29 := byT_of z29q (by omega)
        clear z29q
        subst z29e
        show e_Pn 20 elay kcode eI nn3 d 134 (15, (0, (1, 1)) :: (1, (0, p)) :: (2, (0, x)) :: (3, (0, y3)) :: tl4, [(0, byT (w 5) N (p + y3))], w) _
        refine e_Pn.callA rfl (fun nq dq => e_Ok.pnA (D0 := 600) (fun D hD => c_122 (by omega)) nq dq) (fun r30 w31 h32 => ?_)
        obtain ⟨z33, rfl, rfl, z33q⟩ := h32
        replace z33q : (z33 = 1 ∧ nmB (byT (w 5) N (p + y3))) ∨ (z33 = 0 ∧ ¬ nmB (byT (w 5) N (p + y3))) := by unfold nmB; omega
        obtain ⟨z33a, z33b⟩ : (z33 = 1 ↔ nmB (byT (w 5) N (p + y3))) ∧ (0 ≤ z33 ∧ z33 ≤ 1) := by rcases z33q with ⟨g, g2⟩ | ⟨g, g2⟩; exact ⟨⟨fun _ => g2, fun _ => g⟩, by omega⟩; exact ⟨⟨fun q => absurd q (by omega), fun q => absurd q g2⟩, by omega⟩
        clear z33q
        show e_Pn 20 elay kcode eI nn3 d 134 (18, (0, (1, 1)) :: (1, (0, p)) :: (2, (0, x)) :: (3, (0, y3)) :: tl4, [(0, z33)], w) _
        refine e_Pn.if1 kAlk rfl (fun h34 => ?_) (fun h34 => ?_)
        · replace h34 : (z33 : Int) = 0 := h34
          show e_Pn 20 elay kcode eI nn3 d 134 (44, (0, (1, 1)) :: (1, (0, p)) :: (2, (0, x)) :: (3, (0, y3)) :: tl4, [], w) _
          refine e_Pn.run (t' := (47, (0, (1, 1)) :: (1, (0, p)) :: (2, (0, x)) :: (3, (0, y3)) :: tl4, [(0, y3), (0, p), (1, 1)], w)) kAlk 3 rfl ?_
          refine e_Pn.add (z := p + y3) kAlk rfl (by omega) (by omega) ?_
          refine e_Pn.callA rfl (fun nq dq => e_Ok.pnA (D0 := 600) (fun D hD => l_120 hT hH (by omega)) nq dq) (fun r35 w36 h37 => ?_)
          obtain ⟨z38, rfl, rfl, z38r, z38q⟩ := h37
          rw [hN] at z38q
          have z38e : byT (w 5) N (p + y3) = z38 := byT_of z38q (by omega)
          clear z38q
          subst z38e
          show e_Pn 20 elay kcode eI nn3 d 134 (51, (0, (1, 1)) :: (1, (0, p)) :: (2, (0, x)) :: (3, (0, y3)) :: tl4, [(0, byT (w 5) N (p + y3))], w) _
          refine e_Pn.callA rfl (fun nq dq => e_Ok.pnA (D0 := 600) (fun D hD => c_122 (by omega)) nq dq) (fun r39 w40 h41 => ?_)
          obtain ⟨z42, rfl, rfl, z42q⟩ := h41
          replace z42q : (z42 = 1 ∧ nmB (byT (w 5) N (p + y3))) ∨ (z42 = 0 ∧ ¬ nmB (byT (w 5) N (p + y3))) := by unfold nmB; omega
          obtain ⟨z42a, z42b⟩ : (z42 = 1 ↔ nmB (byT (w 5) N (p + y3))) ∧ (0 ≤ z42 ∧ z42 ≤ 1) := by rcases z42q with ⟨g, g2⟩ | ⟨g, g2⟩; exact ⟨⟨fun _ => g2, fun _ => g⟩, by omega⟩; exact ⟨⟨fun q => absurd q (by omega), fun q => absurd q g2⟩, by omega⟩
          clear z42q
          show e_Pn 20 elay kcode eI nn3 d 134 (54, (0, (1, 1)) :: (1, (0, p)) :: (2, (0, x)) :: (3, (0, y3)) :: tl4, [(0, z42)], w) _
          refine e_Pn.if1 kAlk rfl (fun h43 => ?_) (fun h43 => ?_)
          · replace h43 : (z42 : Int) ≠ 0 := h43
            show e_Pn 20 elay kcode eI nn3 d 134 (74, (0, (1, 1)) :: (1, (0, p)) :: (2, (0, x)) :: (3, (0, y3)) :: tl4, [], w) _
            refine e_Pn.run (t' := (75, (0, (1, 1)) :: (1, (0, p)) :: (2, (0, x)) :: (3, (0, y3)) :: tl4, [(0, 0)], w)) kAlk 1 rfl ?_
            refine e_Pn.ret4 rfl ?_
            exact ⟨_, rfl, rfl, by first | exact Or.inl ⟨rfl, snJ.yes j6 (by omega) (fun q => by have := z33a.mpr q; omega) (fun q => by have := z42a.mpr q; omega)⟩ | exact Or.inr ⟨rfl, snJ.no1 j6 (by omega) (z42a.mp (by omega)) (by omega)⟩ | exact Or.inr ⟨rfl, snJ.no2 j6 (by omega) (fun q => by have := z33a.mpr q; omega) (z42a.mp (by omega))⟩ | exact (snJ.no3 j6 (by omega) hw (z42a.mp (by omega))).elim | (exfalso; have q1 := z33a.trans z42a.symm; omega)⟩
          · replace h43 : (z42 : Int) = 0 := by have q : ¬ ((z42 : Int) ≠ 0) := h43; omega
            show e_Pn 20 elay kcode eI nn3 d 134 (57, (0, (1, 1)) :: (1, (0, p)) :: (2, (0, x)) :: (3, (0, y3)) :: tl4, [], w) _
            refine e_Pn.run (t' := (60, (0, (1, 1)) :: (1, (0, p)) :: (2, (0, x)) :: (3, (0, y3)) :: tl4, [(0, y3), (0, x), (1, 1)], w)) kAlk 3 rfl ?_
            refine e_Pn.add (z := x + y3) kAlk rfl (by omega) (by omega) ?_
            refine e_Pn.callA rfl (fun nq dq => e_Ok.pnA (D0 := 600) (fun D hD => l_120 hT hH (by omega)) nq dq) (fun r44 w45 h46 => ?_)
            obtain ⟨z47, rfl, rfl, z47r, z47q⟩ := h46
            rw [hN] at z47q
            have z47e : byT (w 5) N (x + y3) = z47 := byT_of z47q (by omega)
            clear z47q
            subst z47e
            show e_Pn 20 elay kcode eI nn3 d 134 (64, (0, (1, 1)) :: (1, (0, p)) :: (2, (0, x)) :: (3, (0, y3)) :: tl4, [(0, byT (w 5) N (x + y3))], w) _
            refine e_Pn.callA rfl (fun nq dq => e_Ok.pnA (D0 := 600) (fun D hD => c_122 (by omega)) nq dq) (fun r48 w49 h50 => ?_)
            obtain ⟨z51, rfl, rfl, z51q⟩ := h50
            replace z51q : (z51 = 1 ∧ nmB (byT (w 5) N (x + y3))) ∨ (z51 = 0 ∧ ¬ nmB (byT (w 5) N (x + y3))) := by unfold nmB; omega
            obtain ⟨z51a, z51b⟩ : (z51 = 1 ↔ nmB (byT (w 5) N (x + y3))) ∧ (0 ≤ z51 ∧ z51 ≤ 1) := by rcases z51q with ⟨g, g2⟩ | ⟨g, g2⟩; exact ⟨⟨fun _ => g2, fun _ => g⟩, by omega⟩; exact ⟨⟨fun q => absurd q (by omega), fun q => absurd q g2⟩, by omega⟩
            clear z51q
            show e_Pn 20 elay kcode eI nn3 d 134 (67, (0, (1, 1)) :: (1, (0, p)) :: (2, (0, x)) :: (3, (0, y3)) :: tl4, [(0, z51)], w) _
            refine e_Pn.if1 kAlk rfl (fun h52 => ?_) (fun h52 => ?_)
            · replace h52 : (z51 : Int) ≠ 0 := h52
              show e_Pn 20 elay kcode eI nn3 d 134 (74, (0, (1, 1)) :: (1, (0, p)) :: (2, (0, x)) :: (3, (0, y3)) :: tl4, [], w) _
              refine e_Pn.run (t' := (75, (0, (1, 1)) :: (1, (0, p)) :: (2, (0, x)) :: (3, (0, y3)) :: tl4, [(0, 0)], w)) kAlk 1 rfl ?_
              refine e_Pn.ret4 rfl ?_
              exact ⟨_, rfl, rfl, by first | exact Or.inl ⟨rfl, snJ.yes j6 (by omega) (fun q => by have := z42a.mpr q; omega) (fun q => by have := z51a.mpr q; omega)⟩ | exact Or.inr ⟨rfl, snJ.no1 j6 (by omega) (z51a.mp (by omega)) (by omega)⟩ | exact Or.inr ⟨rfl, snJ.no2 j6 (by omega) (fun q => by have := z42a.mpr q; omega) (z51a.mp (by omega))⟩ | exact (snJ.no3 j6 (by omega) hw (z51a.mp (by omega))).elim | (exfalso; have q1 := z33a.trans z42a.symm; omega)⟩
            · replace h52 : (z51 : Int) = 0 := by have q : ¬ ((z51 : Int) ≠ 0) := h52; omega
              show e_Pn 20 elay kcode eI nn3 d 134 (70, (0, (1, 1)) :: (1, (0, p)) :: (2, (0, x)) :: (3, (0, y3)) :: tl4, [], w) _
              refine e_Pn.run (t' := (75, (0, (1, 1)) :: (1, (0, p)) :: (2, (0, x)) :: (3, (0, y3)) :: tl4, [(0, 1)], w)) kAlk 2 rfl ?_
              refine e_Pn.ret4 rfl ?_
              exact ⟨_, rfl, rfl, by first | exact Or.inl ⟨rfl, snJ.yes j6 (by omega) (fun q => by have := z42a.mpr q; omega) (fun q => by have := z51a.mpr q; omega)⟩ | exact Or.inr ⟨rfl, snJ.no1 j6 (by omega) (z51a.mp (by omega)) (by omega)⟩ | exact Or.inr ⟨rfl, snJ.no2 j6 (by omega) (fun q => by have := z42a.mpr q; omega) (z51a.mp (by omega))⟩ | exact (snJ.no3 j6 (by omega) hw (z51a.mp (by omega))).elim | (exfalso; have q1 := z33a.trans z42a.symm; omega)⟩
        · replace h34 : (z33 : Int) ≠ 0 := by have q : ¬ ((z33 : Int) = 0) := h34; omega
          show e_Pn 20 elay kcode eI nn3 d 134 (21, (0, (1, 1)) :: (1, (0, p)) :: (2, (0, x)) :: (3, (0, y3)) :: tl4, [], w) _
          refine e_Pn.run (t' := (24, (0, (1, 1)) :: (1, (0, p)) :: (2, (0, x)) :: (3, (0, y3)) :: tl4, [(0, y3), (0, p), (1, 1)], w)) kAlk 3 rfl ?_
          refine e_Pn.add (z := p + y3) kAlk rfl (by omega) (by omega) ?_
          refine e_Pn.callA rfl (fun nq dq => e_Ok.pnA (D0 := 600) (fun D hD => l_120 hT hH (by omega)) nq dq) (fun r53 w54 h55 => ?_)
          obtain ⟨z56, rfl, rfl, z56r, z56q⟩ := h55
          rw [hN] at z56q
          have z56e : byT (w 5) N (p + y3) = z56 := byT_of z56q (by omega)
          clear z56q
          subst z56e
          show e_Pn 20 elay kcode eI nn3 d 134 (28, (0, (1, 1)) :: (1, (0, p)) :: (2, (0, x)) :: (3, (0, y3)) :: tl4, [(0, byT (w 5) N (p + y3))], w) _
          refine e_Pn.run (t' := (31, (0, (1, 1)) :: (1, (0, p)) :: (2, (0, x)) :: (3, (0, y3)) :: tl4, [(0, y3), (0, x), (1, 1), (0, byT (w 5) N (p + y3))], w)) kAlk 3 rfl ?_
          refine e_Pn.add (z := x + y3) kAlk rfl (by omega) (by omega) ?_
          refine e_Pn.callA rfl (fun nq dq => e_Ok.pnA (D0 := 600) (fun D hD => l_120 hT hH (by omega)) nq dq) (fun r57 w58 h59 => ?_)
          obtain ⟨z60, rfl, rfl, z60r, z60q⟩ := h59
          rw [hN] at z60q
          have z60e : byT (w 5) N (x + y3) = z60 := byT_of z60q (by omega)
          clear z60q
          subst z60e
          show e_Pn 20 elay kcode eI nn3 d 134 (35, (0, (1, 1)) :: (1, (0, p)) :: (2, (0, x)) :: (3, (0, y3)) :: tl4, [(0, byT (w 5) N (x + y3)), (0, byT (w 5) N (p + y3))], w) _
          refine e_Pn.if2 kAlk rfl (fun h61 => ?_) (fun h61 => ?_)
          · replace h61 : (byT (w 5) N (p + y3) : Int) ≠ byT (w 5) N (x + y3) := h61
            show e_Pn 20 elay kcode eI nn3 d 134 (44, (0, (1, 1)) :: (1, (0, p)) :: (2, (0, x)) :: (3, (0, y3)) :: tl4, [], w) _
            refine e_Pn.run (t' := (47, (0, (1, 1)) :: (1, (0, p)) :: (2, (0, x)) :: (3, (0, y3)) :: tl4, [(0, y3), (0, p), (1, 1)], w)) kAlk 3 rfl ?_
            refine e_Pn.add (z := p + y3) kAlk rfl (by omega) (by omega) ?_
            refine e_Pn.callA rfl (fun nq dq => e_Ok.pnA (D0 := 600) (fun D hD => l_120 hT hH (by omega)) nq dq) (fun r62 w63 h64 => ?_)
            obtain ⟨z65, rfl, rfl, z65r, z65q⟩ := h64
            rw [hN] at z65q
            have z65e : byT (w 5) N (p + y3) = z65 := byT_of z65q (by omega)
            clear z65q
            subst z65e
            show e_Pn 20 elay kcode eI nn3 d 134 (51, (0, (1, 1)) :: (1, (0, p)) :: (2, (0, x)) :: (3, (0, y3)) :: tl4, [(0, byT (w 5) N (p + y3))], w) _
            refine e_Pn.callA rfl (fun nq dq => e_Ok.pnA (D0 := 600) (fun D hD => c_122 (by omega)) nq dq) (fun r66 w67 h68 => ?_)
            obtain ⟨z69, rfl, rfl, z69q⟩ := h68
            replace z69q : (z69 = 1 ∧ nmB (byT (w 5) N (p + y3))) ∨ (z69 = 0 ∧ ¬ nmB (byT (w 5) N (p + y3))) := by unfold nmB; omega
            obtain ⟨z69a, z69b⟩ : (z69 = 1 ↔ nmB (byT (w 5) N (p + y3))) ∧ (0 ≤ z69 ∧ z69 ≤ 1) := by rcases z69q with ⟨g, g2⟩ | ⟨g, g2⟩; exact ⟨⟨fun _ => g2, fun _ => g⟩, by omega⟩; exact ⟨⟨fun q => absurd q (by omega), fun q => absurd q g2⟩, by omega⟩
            clear z69q
            show e_Pn 20 elay kcode eI nn3 d 134 (54, (0, (1, 1)) :: (1, (0, p)) :: (2, (0, x)) :: (3, (0, y3)) :: tl4, [(0, z69)], w) _
            refine e_Pn.if1 kAlk rfl (fun h70 => ?_) (fun h70 => ?_)
            · replace h70 : (z69 : Int) ≠ 0 := h70
              show e_Pn 20 elay kcode eI nn3 d 134 (74, (0, (1, 1)) :: (1, (0, p)) :: (2, (0, x)) :: (3, (0, y3)) :: tl4, [], w) _
              refine e_Pn.run (t' := (75, (0, (1, 1)) :: (1, (0, p)) :: (2, (0, x)) :: (3, (0, y3)) :: tl4, [(0, 0)], w)) kAlk 1 rfl ?_
              refine e_Pn.ret4 rfl ?_
              exact ⟨_, rfl, rfl, by first | exact Or.inl ⟨rfl, snJ.yes j6 (by omega) (fun q => by have := z33a.mpr q; omega) (fun q => by have := z69a.mpr q; omega)⟩ | exact Or.inr ⟨rfl, snJ.no1 j6 (by omega) (z69a.mp (by omega)) (by omega)⟩ | exact Or.inr ⟨rfl, snJ.no2 j6 (by omega) (fun q => by have := z33a.mpr q; omega) (z69a.mp (by omega))⟩ | exact (snJ.no3 j6 (by omega) hw (z69a.mp (by omega))).elim | (exfalso; have q1 := z33a.trans z69a.symm; omega)⟩
            · replace h70 : (z69 : Int) = 0 := by have q : ¬ ((z69 : Int) ≠ 0) := h70; omega
              show e_Pn 20 elay kcode eI nn3 d 134 (57, (0, (1, 1)) :: (1, (0, p)) :: (2, (0, x)) :: (3, (0, y3)) :: tl4, [], w) _
              refine e_Pn.run (t' := (60, (0, (1, 1)) :: (1, (0, p)) :: (2, (0, x)) :: (3, (0, y3)) :: tl4, [(0, y3), (0, x), (1, 1)], w)) kAlk 3 rfl ?_
              refine e_Pn.add (z := x + y3) kAlk rfl (by omega) (by omega) ?_
              refine e_Pn.callA rfl (fun nq dq => e_Ok.pnA (D0 := 600) (fun D hD => l_120 hT hH (by omega)) nq dq) (fun r71 w72 h73 => ?_)
              obtain ⟨z74, rfl, rfl, z74r, z74q⟩ := h73
              rw [hN] at z74q
              have z74e : byT (w 5) N (x + y3) = z74 := byT_of z74q (by omega)
              clear z74q
              subst z74e
              show e_Pn 20 elay kcode eI nn3 d 134 (64, (0, (1, 1)) :: (1, (0, p)) :: (2, (0, x)) :: (3, (0, y3)) :: tl4, [(0, byT (w 5) N (x + y3))], w) _
              refine e_Pn.callA rfl (fun nq dq => e_Ok.pnA (D0 := 600) (fun D hD => c_122 (by omega)) nq dq) (fun r75 w76 h77 => ?_)
              obtain ⟨z78, rfl, rfl, z78q⟩ := h77
              replace z78q : (z78 = 1 ∧ nmB (byT (w 5) N (x + y3))) ∨ (z78 = 0 ∧ ¬ nmB (byT (w 5) N (x + y3))) := by unfold nmB; omega
              obtain ⟨z78a, z78b⟩ : (z78 = 1 ↔ nmB (byT (w 5) N (x + y3))) ∧ (0 ≤ z78 ∧ z78 ≤ 1) := by rcases z78q with ⟨g, g2⟩ | ⟨g, g2⟩; exact ⟨⟨fun _ => g2, fun _ => g⟩, by omega⟩; exact ⟨⟨fun q => absurd q (by omega), fun q => absurd q g2⟩, by omega⟩
              clear z78q
              show e_Pn 20 elay kcode eI nn3 d 134 (67, (0, (1, 1)) :: (1, (0, p)) :: (2, (0, x)) :: (3, (0, y3)) :: tl4, [(0, z78)], w) _
              refine e_Pn.if1 kAlk rfl (fun h79 => ?_) (fun h79 => ?_)
              · replace h79 : (z78 : Int) ≠ 0 := h79
                show e_Pn 20 elay kcode eI nn3 d 134 (74, (0, (1, 1)) :: (1, (0, p)) :: (2, (0, x)) :: (3, (0, y3)) :: tl4, [], w) _
                refine e_Pn.run (t' := (75, (0, (1, 1)) :: (1, (0, p)) :: (2, (0, x)) :: (3, (0, y3)) :: tl4, [(0, 0)], w)) kAlk 1 rfl ?_
                refine e_Pn.ret4 rfl ?_
                exact ⟨_, rfl, rfl, by first | exact Or.inl ⟨rfl, snJ.yes j6 (by omega) (fun q => by have := z69a.mpr q; omega) (fun q => by have := z78a.mpr q; omega)⟩ | exact Or.inr ⟨rfl, snJ.no1 j6 (by omega) (z78a.mp (by omega)) (by omega)⟩ | exact Or.inr ⟨rfl, snJ.no2 j6 (by omega) (fun q => by have := z69a.mpr q; omega) (z78a.mp (by omega))⟩ | exact (snJ.no3 j6 (by omega) hw (z78a.mp (by omega))).elim | (exfalso; have q1 := z33a.trans z69a.symm; omega)⟩
              · replace h79 : (z78 : Int) = 0 := by have q : ¬ ((z78 : Int) ≠ 0) := h79; omega
                show e_Pn 20 elay kcode eI nn3 d 134 (70, (0, (1, 1)) :: (1, (0, p)) :: (2, (0, x)) :: (3, (0, y3)) :: tl4, [], w) _
                refine e_Pn.run (t' := (75, (0, (1, 1)) :: (1, (0, p)) :: (2, (0, x)) :: (3, (0, y3)) :: tl4, [(0, 1)], w)) kAlk 2 rfl ?_
                refine e_Pn.ret4 rfl ?_
                exact ⟨_, rfl, rfl, by first | exact Or.inl ⟨rfl, snJ.yes j6 (by omega) (fun q => by have := z69a.mpr q; omega) (fun q => by have := z78a.mpr q; omega)⟩ | exact Or.inr ⟨rfl, snJ.no1 j6 (by omega) (z78a.mp (by omega)) (by omega)⟩ | exact Or.inr ⟨rfl, snJ.no2 j6 (by omega) (fun q => by have := z69a.mpr q; omega) (z78a.mp (by omega))⟩ | exact (snJ.no3 j6 (by omega) hw (z78a.mp (by omega))).elim | (exfalso; have q1 := z33a.trans z69a.symm; omega)⟩
          · replace h61 : (byT (w 5) N (p + y3) : Int) = byT (w 5) N (x + y3) := by have q : ¬ ((byT (w 5) N (p + y3) : Int) ≠ byT (w 5) N (x + y3)) := h61; omega
            show e_Pn 20 elay kcode eI nn3 d 134 (38, (0, (1, 1)) :: (1, (0, p)) :: (2, (0, x)) :: (3, (0, y3)) :: tl4, [], w) _
            refine e_Pn.inc (z := y3 + 1) kAlk rfl rfl (by omega) (by omega) ?_
            show e_Pn 20 elay kcode eI nn3 d 134 (41, (3, (0, y3 + 1)) :: (0, (1, 1)) :: (1, (0, p)) :: (2, (0, x)) :: List.filter (e_flt 0 3) tl4, [], w) _
            refine e_Pn.run (t' := (2, (3, (0, y3 + 1)) :: (0, (1, 1)) :: (1, (0, p)) :: (2, (0, x)) :: List.filter (e_flt 0 3) tl4, [], w)) kAlk 1 rfl ?_
            exact e_Pn.ord kAlk [0, 1, 2, 3] rfl rfl ((ih2 (by omega) _ (y3 + 1) ⟨(by omega), (snJ.up j6 (z33a.mp (by omega)) (by omega))⟩))
  exact e_Pn.ord kAlk [0, 1, 2, 3] rfl rfl (hL1 n (Nat.le_refl _) _ 0 ⟨(by omega), snJ.z⟩)
theorem l_135 {n d : Nat} {w : eW} {cd : Int} (hR : kRw cd w) (hT : e_Has kLt w) (hH : e_Has kLr w) {N : Int} (hN : w 1 0 = N) {x : Int} (g_x : 0 ≤ x ∧ x ≤ 4000) (hO : nmOk (w 5) N (w 6) (w cd 2)) (hq : w cd 2 ≤ 4000) : e_Pn 20 elay kcode eI n d 135 (0, [(0, (1, 1)), (1, (0, x))], [], w) (fun r w' => ∃ z : Int, r = [(0, z)] ∧ w = w' ∧ fndQ (w 5) N (w 6) (w cd 2) x z) := by
  have hn := hR.1.n
  refine e_Pn.run (t' := (2, [(2, (0, 0)), (0, (1, 1)), (1, (0, x))], [], w)) kAlk 2 rfl ?_
  have hL1 : ∀ nn3 : Nat, nn3 ≤ n → ∀ (tl4 : eL) (y2 : Int), (0 ≤ y2 ∧ y2 ≤ 4000) ∧ (∀ j, 0 ≤ j → j < y2 → ¬ snm (w 5) N (w 6 j) x) → e_Pn 20 elay kcode eI nn3 d 135 (2, (0, (1, 1)) :: (1, (0, x)) :: (2, (0, y2)) :: tl4, [], w) (fun r w' => ∃ z : Int, r = [(0, z)] ∧ w = w' ∧ fndQ (w 5) N (w 6) (w cd 2) x z) := by
    intro nn3
    induction nn3 with
    | zero => intro _ tl4 y2 _; exact e_Pn.zero
    | succ nn3 ih2 =>
      intro hnnn3 tl4 y2 hj
      obtain ⟨j5, j6⟩ := hj
      refine e_Pn.runS (t' := (4, (0, (1, 1)) :: (1, (0, x)) :: (2, (0, y2)) :: tl4, [(1, 1), (0, y2)], w)) kAlk 1 rfl ?_
      refine e_Pn.getr (z := cd) kAlk rfl rfl hR.2.1 (by omega) ?_
      refine e_Pn.getf (z := w cd 2) kAlk rfl rfl rfl (fun b7 => ?_)
      refine e_Pn.if2 kAlk rfl (fun h8 => ?_) (fun h8 => ?_)
      · replace h8 : (y2 : Int) ≥ w cd 2 := h8
        show e_Pn 20 elay kcode eI nn3 d 135 (35, (0, (1, 1)) :: (1, (0, x)) :: (2, (0, y2)) :: tl4, [], w) _
        refine e_Pn.run (t' := (36, (0, (1, 1)) :: (1, (0, x)) :: (2, (0, y2)) :: tl4, [(0, (-1))], w)) kAlk 1 rfl ?_
        refine e_Pn.ret1 rfl ?_
        exact ⟨_, rfl, rfl, Or.inl ⟨rfl, fun j g1 g2 => j6 j g1 (by omega)⟩⟩
      · replace h8 : (y2 : Int) < w cd 2 := by have q : ¬ ((y2 : Int) ≥ w cd 2) := h8; omega
        show e_Pn 20 elay kcode eI nn3 d 135 (13, (0, (1, 1)) :: (1, (0, x)) :: (2, (0, y2)) :: tl4, [], w) _
        refine e_Pn.run (t' := (15, (0, (1, 1)) :: (1, (0, x)) :: (2, (0, y2)) :: tl4, [(1, 1), (1, 1)], w)) kAlk 2 rfl ?_
        refine e_Pn.getr (z := 6) kAlk rfl rfl hR.2.2.2.1 (by omega) ?_
        refine e_Pn.run (t' := (19, (0, (1, 1)) :: (1, (0, x)) :: (2, (0, y2)) :: tl4, [(0, y2), (1, 6), (1, 1)], w)) kAlk 1 rfl ?_
        refine e_Pn.ald (z := w 6 y2) kAlk rfl rfl (fun b9 b10 => ?_)
        refine e_Pn.run (t' := (21, (0, (1, 1)) :: (1, (0, x)) :: (2, (0, y2)) :: tl4, [(0, x), (0, w 6 y2), (1, 1)], w)) kAlk 1 rfl ?_
        refine e_Pn.callA rfl (fun nq dq => l_134 hT hH hN (by have := hO y2 (by omega) (by omega); omega) (by omega) (by have := hO y2 (by omega) (by omega); omega)) (fun r11 w12 h13 => ?_)
        obtain ⟨z14, rfl, rfl, z14q⟩ := h13
        have z14r : (z14 = 0 ∨ z14 = 1) := by rcases z14q with ⟨g, -⟩ | ⟨g, -⟩ <;> omega
        replace z14q := (show Hid _ from z14q)
        show e_Pn 20 elay kcode eI nn3 d 135 (24, (0, (1, 1)) :: (1, (0, x)) :: (2, (0, y2)) :: tl4, [(0, z14)], w) _
        refine e_Pn.if1 kAlk rfl (fun h15 => ?_) (fun h15 => ?_)
        · replace h15 : (z14 : Int) = 0 := h15
          show e_Pn 20 elay kcode eI nn3 d 135 (29, (0, (1, 1)) :: (1, (0, x)) :: (2, (0, y2)) :: tl4, [], w) _
          refine e_Pn.inc (z := y2 + 1) kAlk rfl rfl (by omega) (by omega) ?_
          show e_Pn 20 elay kcode eI nn3 d 135 (32, (2, (0, y2 + 1)) :: (0, (1, 1)) :: (1, (0, x)) :: List.filter (e_flt 0 2) tl4, [], w) _
          refine e_Pn.run (t' := (2, (2, (0, y2 + 1)) :: (0, (1, 1)) :: (1, (0, x)) :: List.filter (e_flt 0 2) tl4, [], w)) kAlk 1 rfl ?_
          exact e_Pn.ord kAlk [0, 1, 2] rfl rfl ((ih2 (by omega) _ (y2 + 1) ⟨(by omega), (fun j g1 g2 => by by_cases e : j = y2; (rw [e]; rcases (z14q : (z14 = 1 ∧ _) ∨ (z14 = 0 ∧ _)) with ⟨g, -⟩ | ⟨-, g⟩; omega; exact g); exact j6 j g1 (by omega))⟩))
        · replace h15 : (z14 : Int) ≠ 0 := by have q : ¬ ((z14 : Int) = 0) := h15; omega
          show e_Pn 20 elay kcode eI nn3 d 135 (27, (0, (1, 1)) :: (1, (0, x)) :: (2, (0, y2)) :: tl4, [], w) _
          refine e_Pn.run (t' := (28, (0, (1, 1)) :: (1, (0, x)) :: (2, (0, y2)) :: tl4, [(0, y2)], w)) kAlk 1 rfl ?_
          refine e_Pn.ret1 rfl ?_
          exact ⟨_, rfl, rfl, Or.inr ⟨by omega, by omega, by rcases (z14q : (z14 = 1 ∧ _) ∨ (z14 = 0 ∧ _)) with ⟨-, g⟩ | ⟨g, -⟩; exact g; omega, j6⟩⟩
  exact e_Pn.ord kAlk [0, 1, 2] rfl rfl (hL1 n (Nat.le_refl _) _ 0 ⟨(by omega), (fun j g1 g2 => by omega)⟩)
theorem l_136 {n d : Nat} {w : eW} {cd : Int} (hR : kRw cd w) (hT : e_Has kLt w) (hH : e_Has kLr w) {N : Int} (hN : w 1 0 = N) {x : Int} (g_x : 0 ≤ x ∧ x ≤ 4000) (hO : nmOk (w 5) N (w 7) (w 1 14)) (hq : w 1 14 ≤ 4000) : e_Pn 20 elay kcode eI n d 136 (0, [(0, (1, 1)), (1, (0, x))], [], w) (fun r w' => ∃ z : Int, r = [(0, z)] ∧ w = w' ∧ fndQ (w 5) N (w 7) (w 1 14) x z) := by
  have hn := hR.1.n
  refine e_Pn.run (t' := (2, [(2, (0, 0)), (0, (1, 1)), (1, (0, x))], [], w)) kAlk 2 rfl ?_
  have hL1 : ∀ nn3 : Nat, nn3 ≤ n → ∀ (tl4 : eL) (y2 : Int), (0 ≤ y2 ∧ y2 ≤ 4000) ∧ (∀ j, 0 ≤ j → j < y2 → ¬ snm (w 5) N (w 7 j) x) → e_Pn 20 elay kcode eI nn3 d 136 (2, (0, (1, 1)) :: (1, (0, x)) :: (2, (0, y2)) :: tl4, [], w) (fun r w' => ∃ z : Int, r = [(0, z)] ∧ w = w' ∧ fndQ (w 5) N (w 7) (w 1 14) x z) := by
    intro nn3
    induction nn3 with
    | zero => intro _ tl4 y2 _; exact e_Pn.zero
    | succ nn3 ih2 =>
      intro hnnn3 tl4 y2 hj
      obtain ⟨j5, j6⟩ := hj
      refine e_Pn.runS (t' := (4, (0, (1, 1)) :: (1, (0, x)) :: (2, (0, y2)) :: tl4, [(1, 1), (0, y2)], w)) kAlk 1 rfl ?_
      refine e_Pn.getf (z := w 1 14) kAlk rfl rfl rfl (fun b7 => ?_)
      refine e_Pn.if2 kAlk rfl (fun h8 => ?_) (fun h8 => ?_)
      · replace h8 : (y2 : Int) ≥ w 1 14 := h8
        show e_Pn 20 elay kcode eI nn3 d 136 (32, (0, (1, 1)) :: (1, (0, x)) :: (2, (0, y2)) :: tl4, [], w) _
        refine e_Pn.run (t' := (33, (0, (1, 1)) :: (1, (0, x)) :: (2, (0, y2)) :: tl4, [(0, (-1))], w)) kAlk 1 rfl ?_
        refine e_Pn.ret1 rfl ?_
        exact ⟨_, rfl, rfl, Or.inl ⟨rfl, fun j g1 g2 => j6 j g1 (by omega)⟩⟩
      · replace h8 : (y2 : Int) < w 1 14 := by have q : ¬ ((y2 : Int) ≥ w 1 14) := h8; omega
        show e_Pn 20 elay kcode eI nn3 d 136 (10, (0, (1, 1)) :: (1, (0, x)) :: (2, (0, y2)) :: tl4, [], w) _
        refine e_Pn.run (t' := (12, (0, (1, 1)) :: (1, (0, x)) :: (2, (0, y2)) :: tl4, [(1, 1), (1, 1)], w)) kAlk 2 rfl ?_
        refine e_Pn.getr (z := 7) kAlk rfl rfl hR.2.2.2.2.1 (by omega) ?_
        refine e_Pn.run (t' := (16, (0, (1, 1)) :: (1, (0, x)) :: (2, (0, y2)) :: tl4, [(0, y2), (1, 7), (1, 1)], w)) kAlk 1 rfl ?_
        refine e_Pn.ald (z := w 7 y2) kAlk rfl rfl (fun b9 b10 => ?_)
        refine e_Pn.run (t' := (18, (0, (1, 1)) :: (1, (0, x)) :: (2, (0, y2)) :: tl4, [(0, x), (0, w 7 y2), (1, 1)], w)) kAlk 1 rfl ?_
        refine e_Pn.callA rfl (fun nq dq => l_134 hT hH hN (by have := hO y2 (by omega) (by omega); omega) (by omega) (by have := hO y2 (by omega) (by omega); omega)) (fun r11 w12 h13 => ?_)
        obtain ⟨z14, rfl, rfl, z14q⟩ := h13
        have z14r : (z14 = 0 ∨ z14 = 1) := by rcases z14q with ⟨g, -⟩ | ⟨g, -⟩ <;> omega
        replace z14q := (show Hid _ from z14q)
        show e_Pn 20 elay kcode eI nn3 d 136 (21, (0, (1, 1)) :: (1, (0, x)) :: (2, (0, y2)) :: tl4, [(0, z14)], w) _
        refine e_Pn.if1 kAlk rfl (fun h15 => ?_) (fun h15 => ?_)
        · replace h15 : (z14 : Int) = 0 := h15
          show e_Pn 20 elay kcode eI nn3 d 136 (26, (0, (1, 1)) :: (1, (0, x)) :: (2, (0, y2)) :: tl4, [], w) _
          refine e_Pn.inc (z := y2 + 1) kAlk rfl rfl (by omega) (by omega) ?_
          show e_Pn 20 elay kcode eI nn3 d 136 (29, (2, (0, y2 + 1)) :: (0, (1, 1)) :: (1, (0, x)) :: List.filter (e_flt 0 2) tl4, [], w) _
          refine e_Pn.run (t' := (2, (2, (0, y2 + 1)) :: (0, (1, 1)) :: (1, (0, x)) :: List.filter (e_flt 0 2) tl4, [], w)) kAlk 1 rfl ?_
          exact e_Pn.ord kAlk [0, 1, 2] rfl rfl ((ih2 (by omega) _ (y2 + 1) ⟨(by omega), (fun j g1 g2 => by by_cases e : j = y2; (rw [e]; rcases (z14q : (z14 = 1 ∧ _) ∨ (z14 = 0 ∧ _)) with ⟨g, -⟩ | ⟨-, g⟩; omega; exact g); exact j6 j g1 (by omega))⟩))
        · replace h15 : (z14 : Int) ≠ 0 := by have q : ¬ ((z14 : Int) = 0) := h15; omega
          show e_Pn 20 elay kcode eI nn3 d 136 (24, (0, (1, 1)) :: (1, (0, x)) :: (2, (0, y2)) :: tl4, [], w) _
          refine e_Pn.run (t' := (25, (0, (1, 1)) :: (1, (0, x)) :: (2, (0, y2)) :: tl4, [(0, y2)], w)) kAlk 1 rfl ?_
          refine e_Pn.ret1 rfl ?_
          exact ⟨_, rfl, rfl, Or.inr ⟨by omega, by omega, by rcases (z14q : (z14 = 1 ∧ _) ∨ (z14 = 0 ∧ _)) with ⟨-, g⟩ | ⟨g, -⟩; exact g; omega, j6⟩⟩
  exact e_Pn.ord kAlk [0, 1, 2] rfl rfl (hL1 n (Nat.le_refl _) _ 0 ⟨(by omega), (fun j g1 g2 => by omega)⟩)
theorem l_137 {n d : Nat} {w : eW} {cd : Int} (hR : kRw cd w) (hT : e_Has kLt w) (hH : e_Has kLr w) {N : Int} (hN : w 1 0 = N) (g_a : 0 ≤ w 1 6 ∧ w 1 6 ≤ 4000) (hO : nmOk (w 5) N (w 6) (w cd 2)) (hv : w cd 2 ≤ 32) : e_Pn 20 elay kcode eI n d 137 (0, [(0, (1, 1))], [], w) (fun r w' => ∃ z z' : Int, r = [(0, z)] ∧ fndQ (w 5) N (w 6) (w cd 2) (w 1 6) z' ∧ ((z' = -1 ∧ z = 0 ∧ cplQ w w' 5 (w 1 6)) ∨ (0 ≤ z' ∧ z = z' ∧ w = w'))) := by
  refine e_Pn.run (t' := (2, [(0, (1, 1))], [(1, 1), (1, 1)], w)) kAlk 2 rfl ?_
  refine e_Pn.getf (z := w 1 6) kAlk rfl rfl rfl (fun b1 => ?_)
  refine e_Pn.callA rfl (fun nq dq => l_135 hR hT hH hN (by omega) hO (by omega)) (fun r2 w3 h4 => ?_)
  obtain ⟨z5, rfl, rfl, z5q⟩ := h4
  have z5r : z5 = -1 ∨ 0 ≤ z5 := by rcases z5q with ⟨g, -⟩ | ⟨g, -⟩ <;> omega
  replace z5q := (show Hid _ from z5q)
  show e_Pn 20 elay kcode eI n d 137 (8, [(0, (1, 1))], [(0, z5)], w) _
  refine e_Pn.run (t' := (10, [(1, (0, z5)), (0, (1, 1))], [(0, z5)], w)) kAlk 2 rfl ?_
  refine e_Pn.if1 kAlk rfl (fun h6 => ?_) (fun h6 => ?_)
  · replace h6 : (z5 : Int) ≥ 0 := h6
    show e_Pn 20 elay kcode eI n d 137 (22, [(1, (0, z5)), (0, (1, 1))], [], w) _
    refine e_Pn.run (t' := (24, [(1, (0, z5)), (0, (1, 1))], [(0, 0), (0, z5)], w)) kAlk 2 rfl ?_
    refine e_Pn.mmax kAlk rfl (fun z7 hz7 => ?_)
    replace hz7 : (z5 < 0 ∧ z7 = 0) ∨ (0 ≤ z5 ∧ z7 = z5) := hz7
    refine e_Pn.ret1 rfl ?_
    exact ⟨z7, z5, rfl, z5q, Or.inr ⟨by omega, by omega, rfl⟩⟩
  · replace h6 : (z5 : Int) < 0 := by have q : ¬ ((z5 : Int) ≥ 0) := h6; omega
    show e_Pn 20 elay kcode eI n d 137 (13, [(1, (0, z5)), (0, (1, 1))], [], w) _
    refine e_Pn.run (t' := (16, [(1, (0, z5)), (0, (1, 1))], [(1, 1), (0, 5), (1, 1)], w)) kAlk 3 rfl ?_
    refine e_Pn.getf (z := w 1 6) kAlk rfl rfl rfl (fun b8 => ?_)
    refine e_Pn.callA rfl (fun nq dq => l_133) (fun r9 w10 h11 => ?_)
    obtain ⟨rfl, w10q⟩ := h11
    show e_Pn 20 elay kcode eI n d 137 (22, [(1, (0, z5)), (0, (1, 1))], [], w10) _
    refine e_Pn.run (t' := (24, [(1, (0, z5)), (0, (1, 1))], [(0, 0), (0, z5)], w10)) kAlk 2 rfl ?_
    refine e_Pn.mmax kAlk rfl (fun z12 hz12 => ?_)
    replace hz12 : (z5 < 0 ∧ z12 = 0) ∨ (0 ≤ z5 ∧ z12 = z5) := hz12
    refine e_Pn.ret1 rfl ?_
    exact ⟨z12, z5, rfl, z5q, Or.inl ⟨by omega, by omega, w10q⟩⟩
theorem l_139 {n d : Nat} {w : eW} {cd : Int} (hR : kRw cd w) (hT : e_Has kLt w) (hH : e_Has kLr w) {N : Int} (hN : w 1 0 = N) (g_a : 0 ≤ w 1 6 ∧ w 1 6 ≤ 4000) (hO : nmOk (w 5) N (w 6) (w cd 2)) (hP : nmOk (w 5) N (w 7) (w 1 14)) (hv : w cd 2 ≤ 32) (hr : w 1 14 ≤ 500) : e_Pn 20 elay kcode eI n d 139 (0, [(0, (1, 1))], [], w) (fun r w' => r = [] ∧ ((((∃ j, 0 ≤ j ∧ j < w cd 2 ∧ snm (w 5) N (w 6 j) (w 1 6)) ∨ (∃ j, 0 ≤ j ∧ j < w 1 14 ∧ snm (w 5) N (w 7 j) (w 1 6))) ∧ cplQ w w' 4 (w 1 6)) ∨ ((∀ j, 0 ≤ j → j < w cd 2 → ¬ snm (w 5) N (w 6 j) (w 1 6)) ∧ (∀ j, 0 ≤ j → j < w 1 14 → ¬ snm (w 5) N (w 7 j) (w 1 6)) ∧ w = w'))) := by
  refine e_Pn.run (t' := (2, [(0, (1, 1))], [(1, 1), (1, 1)], w)) kAlk 2 rfl ?_
  refine e_Pn.getf (z := w 1 6) kAlk rfl rfl rfl (fun b1 => ?_)
  refine e_Pn.callA rfl (fun nq dq => l_135 hR hT hH hN (by omega) hO (by omega)) (fun r2 w3 h4 => ?_)
  obtain ⟨z5, rfl, rfl, z5q⟩ := h4
  have z5r : z5 = -1 ∨ 0 ≤ z5 := by rcases z5q with ⟨g, -⟩ | ⟨g, -⟩ <;> omega
  replace z5q := (show Hid _ from z5q)
  show e_Pn 20 elay kcode eI n d 139 (8, [(0, (1, 1))], [(0, z5)], w) _
  refine e_Pn.if1 kAlk rfl (fun h6 => ?_) (fun h6 => ?_)
  · replace h6 : (z5 : Int) ≥ 0 := h6
    show e_Pn 20 elay kcode eI n d 139 (22, [(0, (1, 1))], [], w) _
    refine e_Pn.run (t' := (25, [(0, (1, 1))], [(1, 1), (0, 4), (1, 1)], w)) kAlk 3 rfl ?_
    refine e_Pn.getf (z := w 1 6) kAlk rfl rfl rfl (fun b7 => ?_)
    refine e_Pn.callA rfl (fun nq dq => l_133) (fun r8 w9 h10 => ?_)
    obtain ⟨rfl, w9q⟩ := h10
    show e_Pn 20 elay kcode eI n d 139 (31, [(0, (1, 1))], [], w9) _
    refine e_Pn.ret0 rfl ?_
    exact ⟨rfl, Or.inl ⟨by first | (refine Or.inl ?_; rcases (z5q : fndQ _ _ _ _ _ _) with ⟨g, -⟩ | ⟨g1, g2, g3, -⟩; (exfalso; omega); exact ⟨_, g1, g2, g3⟩) | (refine Or.inr ?_; rcases (z5q : fndQ _ _ _ _ _ _) with ⟨g, -⟩ | ⟨g1, g2, g3, -⟩; (exfalso; omega); exact ⟨_, g1, g2, g3⟩), w9q⟩⟩
  · replace h6 : (z5 : Int) < 0 := by have q : ¬ ((z5 : Int) ≥ 0) := h6; omega
    show e_Pn 20 elay kcode eI n d 139 (11, [(0, (1, 1))], [], w) _
    refine e_Pn.run (t' := (13, [(0, (1, 1))], [(1, 1), (1, 1)], w)) kAlk 2 rfl ?_
    refine e_Pn.getf (z := w 1 6) kAlk rfl rfl rfl (fun b11 => ?_)
    refine e_Pn.callA rfl (fun nq dq => l_136 hR hT hH hN (by omega) hP (by omega)) (fun r12 w13 h14 => ?_)
    obtain ⟨z15, rfl, rfl, z15q⟩ := h14
    have z15r : z15 = -1 ∨ 0 ≤ z15 := by rcases z15q with ⟨g, -⟩ | ⟨g, -⟩ <;> omega
    replace z15q := (show Hid _ from z15q)
    show e_Pn 20 elay kcode eI n d 139 (19, [(0, (1, 1))], [(0, z15)], w) _
    refine e_Pn.if1 kAlk rfl (fun h16 => ?_) (fun h16 => ?_)
    · replace h16 : (z15 : Int) < 0 := h16
      show e_Pn 20 elay kcode eI n d 139 (31, [(0, (1, 1))], [], w) _
      refine e_Pn.ret0 rfl ?_
      exact ⟨rfl, Or.inr ⟨by rcases (z5q : fndQ _ _ _ _ _ _) with ⟨-, g⟩ | ⟨g, -⟩; exact g; omega, by rcases (z15q : fndQ _ _ _ _ _ _) with ⟨-, g⟩ | ⟨g, -⟩; exact g; omega, rfl⟩⟩
    · replace h16 : (z15 : Int) ≥ 0 := by have q : ¬ ((z15 : Int) < 0) := h16; omega
      show e_Pn 20 elay kcode eI n d 139 (22, [(0, (1, 1))], [], w) _
      refine e_Pn.run (t' := (25, [(0, (1, 1))], [(1, 1), (0, 4), (1, 1)], w)) kAlk 3 rfl ?_
      refine e_Pn.getf (z := w 1 6) kAlk rfl rfl rfl (fun b17 => ?_)
      refine e_Pn.callA rfl (fun nq dq => l_133) (fun r18 w19 h20 => ?_)
      obtain ⟨rfl, w19q⟩ := h20
      show e_Pn 20 elay kcode eI n d 139 (31, [(0, (1, 1))], [], w19) _
      refine e_Pn.ret0 rfl ?_
      exact ⟨rfl, Or.inl ⟨by first | (refine Or.inl ?_; rcases (z5q : fndQ _ _ _ _ _ _) with ⟨g, -⟩ | ⟨g1, g2, g3, -⟩; (exfalso; omega); exact ⟨_, g1, g2, g3⟩) | (refine Or.inr ?_; rcases (z15q : fndQ _ _ _ _ _ _) with ⟨g, -⟩ | ⟨g1, g2, g3, -⟩; (exfalso; omega); exact ⟨_, g1, g2, g3⟩), w19q⟩⟩
end
