noncomputable section
/-! the JDK's own methods of a text: what they answer -/
def jQ (r : List eV) (w : eW) : List eV → eW → Prop := fun r' w' => r' = r ∧ w' = w
theorem j_bin {F : Int → Int → Option Int} {x y z : Int} {nx p : Nat} {l : eL} {r : List eV} {w : eW} (h : F x y = some z) : ei_bin F nx (p, l, (0, y) :: (0, x) :: r, w) = some (nx, l, (0, z) :: r, w) := by
  show (match F x y with | some z => _ | none => none) = _
  rw [h]
theorem j_un {F : Int → eV} {x : Int} {z : eV} {nx p : Nat} {l : eL} {r : List eV} {w : eW} (h : F x = z) : ei_un F nx (p, l, (0, x) :: r, w) = some (nx, l, z :: r, w) := by
  show some (nx, l, F x :: r, w) = _
  rw [h]
section EJD
variable {w : eW}
theorem j_500 {d : Nat} {j : Int} (hj : j = 357 ∨ j = 358) : e_Ok 1 elay code3 I3 d 500 (0, [(0, (1, j))], [], w) (jQ [(0, 0)] w) := by
  rcases hj with rfl | rfl
  · exact e_Ok.run (t' := (14, [(0, (1, 357))], [(0, 0)], w)) 5 rfl (e_Ok.rets rfl rfl ⟨rfl, rfl⟩)
  · exact e_Ok.run (t' := (14, [(0, (1, 358))], [(0, 0)], w)) 5 rfl (e_Ok.rets rfl rfl ⟨rfl, rfl⟩)
theorem j_502 {d : Nat} {j : Int} (hj : j = 357 ∨ j = 358) : e_Ok 1 elay code3 I3 d 502 (0, [(0, (1, j))], [], w) (jQ [(0, 1)] w) := by
  rcases hj with rfl | rfl
  · exact e_Ok.run (t' := (18, [(0, (1, 357))], [(0, 1)], w)) 7 rfl (e_Ok.rets rfl rfl ⟨rfl, rfl⟩)
  · exact e_Ok.run (t' := (18, [(0, (1, 358))], [(0, 1)], w)) 7 rfl (e_Ok.rets rfl rfl ⟨rfl, rfl⟩)

theorem j_501_12_357 : e_Ok 1 elay code3 I3 12 501 (0, [(0, (1, 357))], [], w) (jQ [(0, 171)] w) := by
  refine e_Ok.run (t' := (6, [(0, (1, 357))], [(1, 357), (0, 171)], w)) 4 rfl ?_
  refine e_Ok.call (Q' := jQ [(0, 0)] w) rfl rfl (j_500 (by decide)) ?_
  rintro r w' ⟨rfl, rfl⟩
  refine e_Ok.step (t' := (10, [(0, (1, 357))], [(0, 171)], w')) rfl (j_bin (by decide +kernel)) ?_
  exact e_Ok.rets rfl rfl ⟨rfl, rfl⟩

theorem j_501_12_358 : e_Ok 1 elay code3 I3 12 501 (0, [(0, (1, 358))], [], w) (jQ [(0, 13)] w) := by
  refine e_Ok.run (t' := (6, [(0, (1, 358))], [(1, 358), (0, 13)], w)) 4 rfl ?_
  refine e_Ok.call (Q' := jQ [(0, 0)] w) rfl rfl (j_500 (by decide)) ?_
  rintro r w' ⟨rfl, rfl⟩
  refine e_Ok.step (t' := (10, [(0, (1, 358))], [(0, 13)], w')) rfl (j_bin (by decide +kernel)) ?_
  exact e_Ok.rets rfl rfl ⟨rfl, rfl⟩

theorem j_501_10_357 : e_Ok 1 elay code3 I3 10 501 (0, [(0, (1, 357))], [], w) (jQ [(0, 171)] w) := by
  refine e_Ok.run (t' := (6, [(0, (1, 357))], [(1, 357), (0, 171)], w)) 4 rfl ?_
  refine e_Ok.call (Q' := jQ [(0, 0)] w) rfl rfl (j_500 (by decide)) ?_
  rintro r w' ⟨rfl, rfl⟩
  refine e_Ok.step (t' := (10, [(0, (1, 357))], [(0, 171)], w')) rfl (j_bin (by decide +kernel)) ?_
  exact e_Ok.rets rfl rfl ⟨rfl, rfl⟩

theorem j_501_10_358 : e_Ok 1 elay code3 I3 10 501 (0, [(0, (1, 358))], [], w) (jQ [(0, 13)] w) := by
  refine e_Ok.run (t' := (6, [(0, (1, 358))], [(1, 358), (0, 13)], w)) 4 rfl ?_
  refine e_Ok.call (Q' := jQ [(0, 0)] w) rfl rfl (j_500 (by decide)) ?_
  rintro r w' ⟨rfl, rfl⟩
  refine e_Ok.step (t' := (10, [(0, (1, 358))], [(0, 13)], w')) rfl (j_bin (by decide +kernel)) ?_
  exact e_Ok.rets rfl rfl ⟨rfl, rfl⟩

theorem j_504 {d : Nat} {i n : Int} (h0 : 0 ≤ i) (h1 : i < n) : e_Ok 1 elay code3 I3 d 504 (0, [(0, (0, i)), (1, (0, n)), (2, (5, 0))], [], w) (jQ [(0, i)] w) := by
  refine e_Ok.run (t' := (1, [(0, (0, i)), (1, (0, n)), (2, (5, 0))], [(0, i)], w)) 1 rfl ?_
  refine e_Ok.if1 rfl (fun h => absurd (show i < 0 from h) (by omega)) (fun _ => ?_)
  refine e_Ok.run (t' := (6, [(0, (0, i)), (1, (0, n)), (2, (5, 0))], [(0, n), (0, i)], w)) 2 rfl ?_
  refine e_Ok.if2 rfl (fun _ => ?_) (fun h => absurd (show i < n from h1) h)
  refine e_Ok.run (t' := (17, [(0, (0, i)), (1, (0, n)), (2, (5, 0))], [(0, i)], w)) 1 rfl ?_
  exact e_Ok.rets rfl rfl ⟨rfl, rfl⟩
theorem j_503 {i n : Int} (h0 : 0 ≤ i) (h1 : i < n) : e_Ok 1 elay code3 I3 10 503 (0, [(0, (0, i)), (1, (0, n))], [], w) (jQ [] w) := by
  refine e_Ok.run (t' := (5, [(0, (0, i)), (1, (0, n))], [(5, 0), (0, n), (0, i)], w)) 3 rfl ?_
  refine e_Ok.call (Q' := jQ [(0, i)] w) rfl rfl (j_504 h0 h1) ?_
  rintro r w' ⟨rfl, rfl⟩
  refine e_Ok.run (t' := (9, [(0, (0, i)), (1, (0, n))], [], w')) 1 rfl ?_
  exact e_Ok.rets rfl rfl ⟨rfl, rfl⟩
/-- every sign of the texts is a small number -/
theorem j_key : ∀ k : Nat, k < 171 → (0 ≤ (e_key.getD k 0).toInt ∧ (e_key.getD k 0).toInt ≤ 127) ∧ eB (fun x y => x &&& y) (e_key.getD k 0).toInt 255 = some (e_key.getD k 0).toInt ∧ ((Int32.ofInt (e_key.getD k 0).toInt).toUInt32 % 65536).toInt32.toInt = (e_key.getD k 0).toInt := by decide +kernel
theorem j_505 {i : Int} (h0 : 0 ≤ i) (h1 : i < 171) : e_Ok 1 elay code3 I3 11 505 (0, [(0, (1, 360)), (1, (0, i))], [], w) (jQ [(0, (e_key.getD i.toNat 0).toInt)] w) := by
  refine e_Ok.run (t' := (3, [(0, (1, 360)), (1, (0, i))], [(0, 171), (0, i)], w)) 3 rfl ?_
  refine e_Ok.call (Q' := jQ [] w) rfl rfl (j_503 h0 h1) ?_
  rintro r w' ⟨rfl, rfl⟩
  refine e_Ok.run (t' := (8, [(0, (1, 360)), (1, (0, i))], [(0, i), (1, 360)], w')) 2 rfl ?_
  refine e_Ok.step (t' := (9, [(0, (1, 360)), (1, (0, i))], [(0, (e_key.getD i.toNat 0).toInt)], w')) rfl ?_ ?_
  · have e : g_tld 9 [(0, i), (1, 360)] = some (9, [(0, (e_key.getD i.toNat 0).toInt)]) := if_pos ⟨rfl, h0, h1⟩
    show (g_tld 9 [(0, i), (1, 360)]).map _ = _
    rw [e]
    rfl
  obtain ⟨⟨k1, k2⟩, k3, k4⟩ := j_key i.toNat (by omega)
  generalize (e_key.getD i.toNat 0).toInt = z at k1 k2 k3 k4 ⊢
  refine e_Ok.run (t' := (12, [(0, (1, 360)), (1, (0, i))], [(0, 255), (0, z)], w')) 1 rfl ?_
  refine e_Ok.step (t' := (13, [(0, (1, 360)), (1, (0, i))], [(0, z)], w')) rfl (j_bin k3) ?_
  refine e_Ok.step (t' := (14, [(0, (1, 360)), (1, (0, i))], [(0, z)], w')) rfl (j_un (by rw [k4])) ?_
  refine e_Ok.rets rfl ?_ ⟨rfl, rfl⟩
  show (bif e_pc (0, z) then some [(0, z)] else none) = some [(0, z)]
  have e : e_pc (0, z) = true := by
    unfold e_pc
    simp only [Bool.and_eq_true, decide_eq_true_eq]
    exact ⟨rfl, k1, k2⟩
  rw [e]
  rfl
theorem j_506 {i : Int} (h0 : 0 ≤ i) (h1 : i < 171) : e_Ok 1 elay code3 I3 12 506 (0, [(0, (1, 357)), (1, (0, i))], [], w) (jQ [(0, (e_key.getD i.toNat 0).toInt)] w) := by
  refine e_Ok.run (t' := (1, [(0, (1, 357)), (1, (0, i))], [(1, 357)], w)) 1 rfl ?_
  refine e_Ok.call (Q' := jQ [(0, 1)] w) rfl rfl (j_502 (by decide)) ?_
  rintro r w' ⟨rfl, rfl⟩
  refine e_Ok.run (t' := (12, [(0, (1, 357)), (1, (0, i))], [(0, i), (1, 360)], w')) 4 rfl ?_
  refine e_Ok.call (Q' := jQ [(0, (e_key.getD i.toNat 0).toInt)] w') rfl rfl (j_505 h0 h1) ?_
  rintro r w1 ⟨rfl, rfl⟩
  obtain ⟨⟨k1, k2⟩, -⟩ := j_key i.toNat (by omega)
  generalize (e_key.getD i.toNat 0).toInt = z at k1 k2 ⊢
  refine e_Ok.rets rfl ?_ ⟨rfl, rfl⟩
  show (bif e_pc (0, z) then some [(0, z)] else none) = some [(0, z)]
  have e : e_pc (0, z) = true := by
    unfold e_pc
    simp only [Bool.and_eq_true, decide_eq_true_eq]
    exact ⟨rfl, k1, k2⟩
  rw [e]
  rfl
theorem j_sgn : ∀ k : Nat, k < 13 → (0 ≤ (e_sgn.getD k 0).toInt ∧ (e_sgn.getD k 0).toInt ≤ 127) ∧ eB (fun x y => x &&& y) (e_sgn.getD k 0).toInt 255 = some (e_sgn.getD k 0).toInt ∧ ((Int32.ofInt (e_sgn.getD k 0).toInt).toUInt32 % 65536).toInt32.toInt = (e_sgn.getD k 0).toInt := by decide +kernel
theorem j_505s {i : Int} (h0 : 0 ≤ i) (h1 : i < 13) : e_Ok 1 elay code3 I3 11 505 (0, [(0, (1, 361)), (1, (0, i))], [], w) (jQ [(0, (e_sgn.getD i.toNat 0).toInt)] w) := by
  refine e_Ok.run (t' := (3, [(0, (1, 361)), (1, (0, i))], [(0, 13), (0, i)], w)) 3 rfl ?_
  refine e_Ok.call (Q' := jQ [] w) rfl rfl (j_503 h0 h1) ?_
  rintro r w' ⟨rfl, rfl⟩
  refine e_Ok.run (t' := (8, [(0, (1, 361)), (1, (0, i))], [(0, i), (1, 361)], w')) 2 rfl ?_
  refine e_Ok.step (t' := (9, [(0, (1, 361)), (1, (0, i))], [(0, (e_sgn.getD i.toNat 0).toInt)], w')) rfl ?_ ?_
  · have e : g_tld 9 [(0, i), (1, 361)] = some (9, [(0, (e_sgn.getD i.toNat 0).toInt)]) := if_pos ⟨rfl, h0, h1⟩
    show (g_tld 9 [(0, i), (1, 361)]).map _ = _
    rw [e]
    rfl
  obtain ⟨⟨k1, k2⟩, k3, k4⟩ := j_sgn i.toNat (by omega)
  generalize (e_sgn.getD i.toNat 0).toInt = z at k1 k2 k3 k4 ⊢
  refine e_Ok.run (t' := (12, [(0, (1, 361)), (1, (0, i))], [(0, 255), (0, z)], w')) 1 rfl ?_
  refine e_Ok.step (t' := (13, [(0, (1, 361)), (1, (0, i))], [(0, z)], w')) rfl (j_bin k3) ?_
  refine e_Ok.step (t' := (14, [(0, (1, 361)), (1, (0, i))], [(0, z)], w')) rfl (j_un (by rw [k4])) ?_
  refine e_Ok.rets rfl ?_ ⟨rfl, rfl⟩
  show (bif e_pc (0, z) then some [(0, z)] else none) = some [(0, z)]
  have e : e_pc (0, z) = true := by
    unfold e_pc
    simp only [Bool.and_eq_true, decide_eq_true_eq]
    exact ⟨rfl, k1, k2⟩
  rw [e]
  rfl
theorem j_506s {i : Int} (h0 : 0 ≤ i) (h1 : i < 13) : e_Ok 1 elay code3 I3 12 506 (0, [(0, (1, 358)), (1, (0, i))], [], w) (jQ [(0, (e_sgn.getD i.toNat 0).toInt)] w) := by
  refine e_Ok.run (t' := (1, [(0, (1, 358)), (1, (0, i))], [(1, 358)], w)) 1 rfl ?_
  refine e_Ok.call (Q' := jQ [(0, 1)] w) rfl rfl (j_502 (by decide)) ?_
  rintro r w' ⟨rfl, rfl⟩
  refine e_Ok.run (t' := (12, [(0, (1, 358)), (1, (0, i))], [(0, i), (1, 361)], w')) 4 rfl ?_
  refine e_Ok.call (Q' := jQ [(0, (e_sgn.getD i.toNat 0).toInt)] w') rfl rfl (j_505s h0 h1) ?_
  rintro r w1 ⟨rfl, rfl⟩
  obtain ⟨⟨k1, k2⟩, -⟩ := j_sgn i.toNat (by omega)
  generalize (e_sgn.getD i.toNat 0).toInt = z at k1 k2 ⊢
  refine e_Ok.rets rfl ?_ ⟨rfl, rfl⟩
  show (bif e_pc (0, z) then some [(0, z)] else none) = some [(0, z)]
  have e : e_pc (0, z) = true := by
    unfold e_pc
    simp only [Bool.and_eq_true, decide_eq_true_eq]
    exact ⟨rfl, k1, k2⟩
  rw [e]
  rfl
theorem j_507 {d : Nat} {c : Int} : e_Ok 1 elay code3 I3 d 507 (0, [(0, (0, c))], [], w) (fun r w' => w' = w ∧ ((r = [(0, 1)] ∧ 0 ≤ c ∧ c ≤ 255) ∨ (r = [(0, 0)] ∧ (c < 0 ∨ 255 < c)))) := by
  refine e_Ok.run (t' := (1, [(0, (0, c))], [(0, c)], w)) 1 rfl ?_
  refine e_Ok.if1 rfl (fun h => ?_) (fun h => ?_)
  · replace h : c < 0 := h
    refine e_Ok.run (t' := (16, [(0, (0, c))], [(0, 0)], w)) 1 rfl ?_
    exact e_Ok.rets rfl rfl ⟨rfl, Or.inr ⟨rfl, Or.inl h⟩⟩
  · replace h : ¬ c < 0 := h
    refine e_Ok.run (t' := (8, [(0, (0, c))], [(0, 255), (0, c)], w)) 2 rfl ?_
    refine e_Ok.if2 rfl (fun h2 => ?_) (fun h2 => ?_)
    · replace h2 : c > 255 := h2
      refine e_Ok.run (t' := (16, [(0, (0, c))], [(0, 0)], w)) 1 rfl ?_
      exact e_Ok.rets rfl rfl ⟨rfl, Or.inr ⟨rfl, Or.inr h2⟩⟩
    · replace h2 : ¬ c > 255 := h2
      refine e_Ok.run (t' := (16, [(0, (0, c))], [(0, 1)], w)) 2 rfl ?_
      exact e_Ok.rets rfl rfl ⟨rfl, Or.inl ⟨rfl, by omega, by omega⟩⟩
/-- where a sign stands -/
def jIx (c : Int) : Int := match e_sgn.findIdx? (fun z => decide (z.toInt = c)) with
  | some k => (k : Int)
  | none => -1

theorem jIx_no {c : Int} (h0 : c ≠ 43) (h1 : c ≠ 45) (h2 : c ≠ 42) (h3 : c ≠ 47) (h4 : c ≠ 37) (h5 : c ≠ 61) (h6 : c ≠ 60) (h7 : c ≠ 62) (h8 : c ≠ 40) (h9 : c ≠ 41) (h10 : c ≠ 44) (h11 : c ≠ 59) (h12 : c ≠ 58) : jIx c = -1 := by
  have e : e_sgn.findIdx? (fun z => decide (z.toInt = c)) = none := by
    rw [List.findIdx?_eq_none_iff]
    intro x hx
    have a : ∀ y ∈ e_sgn, y.toInt = 43 ∨ y.toInt = 45 ∨ y.toInt = 42 ∨ y.toInt = 47 ∨ y.toInt = 37 ∨ y.toInt = 61 ∨ y.toInt = 60 ∨ y.toInt = 62 ∨ y.toInt = 40 ∨ y.toInt = 41 ∨ y.toInt = 44 ∨ y.toInt = 59 ∨ y.toInt = 58 := by decide +kernel
    have q := a x hx
    exact decide_eq_false (by omega)
  unfold jIx
  rw [e]

theorem j_508 {d : Nat} {c : Int} (h0 : 0 ≤ c) (h1 : c ≤ 255) : e_Ok 1 elay code3 I3 d 508 (0, [(0, (1, 361)), (1, (0, c)), (2, (0, 0)), (3, (0, 13))], [], w) (jQ [(0, jIx c)] w) := by
  have hb : ∀ z : Int, 0 ≤ z → z ≤ 127 → (z = c.bmod 256 ↔ z = c) := fun z z0 z1 => by
    have e : c.bmod 256 = if c < 128 then c else c - 256 := by
      unfold Int.bmod
      have : c % ((256 : Nat) : Int) = c := Int.emod_eq_of_lt h0 (by omega)
      rw [this]
      have : ((((256 : Nat) : Int) + 1) / 2) = 128 := by decide
      rw [this]
      rfl
    rw [e]
    split <;> omega
  generalize hbb : c.bmod 256 = b at hb
  refine e_Ok.run (t' := (1, [(0, (1, 361)), (1, (0, c)), (2, (0, 0)), (3, (0, 13))], [(0, c)], w)) 1 rfl ?_
  refine e_Ok.step (t' := (2, [(0, (1, 361)), (1, (0, c)), (2, (0, 0)), (3, (0, 13))], [(0, b)], w)) rfl (j_un (by rw [hbb])) ?_
  refine e_Ok.run (t' := (7, [(5, (0, 0)), (4, (0, b)), (0, (1, 361)), (1, (0, c)), (2, (0, 0)), (3, (0, 13))], [], w)) 3 rfl ?_
  refine e_Ok.run (t' := (19, [(5, (0, 0)), (4, (0, b)), (0, (1, 361)), (1, (0, c)), (2, (0, 0)), (3, (0, 13))], [(0, b), (0, 43)], w)) 7 rfl ?_
  refine e_Ok.if2 rfl (fun h => ?_) (fun h => ?_)
  rotate_left
  · have e : (43 : Int) = c := (hb 43 (by decide) (by decide)).mp (Classical.byContradiction (fun q => h (show (43 : Int) ≠ b from q)))
    subst e
    refine e_Ok.run (t' := (24, [(5, (0, 0)), (4, (0, b)), (0, (1, 361)), (1, (0, 43)), (2, (0, 0)), (3, (0, 13))], [(0, 0)], w)) 1 rfl ?_
    exact e_Ok.rets rfl rfl ⟨by rw [show jIx 43 = 0 by decide +kernel], rfl⟩
  replace h : (43 : Int) ≠ b := h
  have c0 : c ≠ 43 := fun q => h ((hb 43 (by decide) (by decide)).mpr q.symm)
  clear h
  refine e_Ok.run (t' := (7, [(5, (0, 1)), (4, (0, b)), (0, (1, 361)), (1, (0, c)), (2, (0, 0)), (3, (0, 13))], [], w)) 2 rfl ?_
  refine e_Ok.run (t' := (19, [(5, (0, 1)), (4, (0, b)), (0, (1, 361)), (1, (0, c)), (2, (0, 0)), (3, (0, 13))], [(0, b), (0, 45)], w)) 7 rfl ?_
  refine e_Ok.if2 rfl (fun h => ?_) (fun h => ?_)
  rotate_left
  · have e : (45 : Int) = c := (hb 45 (by decide) (by decide)).mp (Classical.byContradiction (fun q => h (show (45 : Int) ≠ b from q)))
    subst e
    refine e_Ok.run (t' := (24, [(5, (0, 1)), (4, (0, b)), (0, (1, 361)), (1, (0, 45)), (2, (0, 0)), (3, (0, 13))], [(0, 1)], w)) 1 rfl ?_
    exact e_Ok.rets rfl rfl ⟨by rw [show jIx 45 = 1 by decide +kernel], rfl⟩
  replace h : (45 : Int) ≠ b := h
  have c1 : c ≠ 45 := fun q => h ((hb 45 (by decide) (by decide)).mpr q.symm)
  clear h
  refine e_Ok.run (t' := (7, [(5, (0, 2)), (4, (0, b)), (0, (1, 361)), (1, (0, c)), (2, (0, 0)), (3, (0, 13))], [], w)) 2 rfl ?_
  refine e_Ok.run (t' := (19, [(5, (0, 2)), (4, (0, b)), (0, (1, 361)), (1, (0, c)), (2, (0, 0)), (3, (0, 13))], [(0, b), (0, 42)], w)) 7 rfl ?_
  refine e_Ok.if2 rfl (fun h => ?_) (fun h => ?_)
  rotate_left
  · have e : (42 : Int) = c := (hb 42 (by decide) (by decide)).mp (Classical.byContradiction (fun q => h (show (42 : Int) ≠ b from q)))
    subst e
    refine e_Ok.run (t' := (24, [(5, (0, 2)), (4, (0, b)), (0, (1, 361)), (1, (0, 42)), (2, (0, 0)), (3, (0, 13))], [(0, 2)], w)) 1 rfl ?_
    exact e_Ok.rets rfl rfl ⟨by rw [show jIx 42 = 2 by decide +kernel], rfl⟩
  replace h : (42 : Int) ≠ b := h
  have c2 : c ≠ 42 := fun q => h ((hb 42 (by decide) (by decide)).mpr q.symm)
  clear h
  refine e_Ok.run (t' := (7, [(5, (0, 3)), (4, (0, b)), (0, (1, 361)), (1, (0, c)), (2, (0, 0)), (3, (0, 13))], [], w)) 2 rfl ?_
  refine e_Ok.run (t' := (19, [(5, (0, 3)), (4, (0, b)), (0, (1, 361)), (1, (0, c)), (2, (0, 0)), (3, (0, 13))], [(0, b), (0, 47)], w)) 7 rfl ?_
  refine e_Ok.if2 rfl (fun h => ?_) (fun h => ?_)
  rotate_left
  · have e : (47 : Int) = c := (hb 47 (by decide) (by decide)).mp (Classical.byContradiction (fun q => h (show (47 : Int) ≠ b from q)))
    subst e
    refine e_Ok.run (t' := (24, [(5, (0, 3)), (4, (0, b)), (0, (1, 361)), (1, (0, 47)), (2, (0, 0)), (3, (0, 13))], [(0, 3)], w)) 1 rfl ?_
    exact e_Ok.rets rfl rfl ⟨by rw [show jIx 47 = 3 by decide +kernel], rfl⟩
  replace h : (47 : Int) ≠ b := h
  have c3 : c ≠ 47 := fun q => h ((hb 47 (by decide) (by decide)).mpr q.symm)
  clear h
  refine e_Ok.run (t' := (7, [(5, (0, 4)), (4, (0, b)), (0, (1, 361)), (1, (0, c)), (2, (0, 0)), (3, (0, 13))], [], w)) 2 rfl ?_
  refine e_Ok.run (t' := (19, [(5, (0, 4)), (4, (0, b)), (0, (1, 361)), (1, (0, c)), (2, (0, 0)), (3, (0, 13))], [(0, b), (0, 37)], w)) 7 rfl ?_
  refine e_Ok.if2 rfl (fun h => ?_) (fun h => ?_)
  rotate_left
  · have e : (37 : Int) = c := (hb 37 (by decide) (by decide)).mp (Classical.byContradiction (fun q => h (show (37 : Int) ≠ b from q)))
    subst e
    refine e_Ok.run (t' := (24, [(5, (0, 4)), (4, (0, b)), (0, (1, 361)), (1, (0, 37)), (2, (0, 0)), (3, (0, 13))], [(0, 4)], w)) 1 rfl ?_
    exact e_Ok.rets rfl rfl ⟨by rw [show jIx 37 = 4 by decide +kernel], rfl⟩
  replace h : (37 : Int) ≠ b := h
  have c4 : c ≠ 37 := fun q => h ((hb 37 (by decide) (by decide)).mpr q.symm)
  clear h
  refine e_Ok.run (t' := (7, [(5, (0, 5)), (4, (0, b)), (0, (1, 361)), (1, (0, c)), (2, (0, 0)), (3, (0, 13))], [], w)) 2 rfl ?_
  refine e_Ok.run (t' := (19, [(5, (0, 5)), (4, (0, b)), (0, (1, 361)), (1, (0, c)), (2, (0, 0)), (3, (0, 13))], [(0, b), (0, 61)], w)) 7 rfl ?_
  refine e_Ok.if2 rfl (fun h => ?_) (fun h => ?_)
  rotate_left
  · have e : (61 : Int) = c := (hb 61 (by decide) (by decide)).mp (Classical.byContradiction (fun q => h (show (61 : Int) ≠ b from q)))
    subst e
    refine e_Ok.run (t' := (24, [(5, (0, 5)), (4, (0, b)), (0, (1, 361)), (1, (0, 61)), (2, (0, 0)), (3, (0, 13))], [(0, 5)], w)) 1 rfl ?_
    exact e_Ok.rets rfl rfl ⟨by rw [show jIx 61 = 5 by decide +kernel], rfl⟩
  replace h : (61 : Int) ≠ b := h
  have c5 : c ≠ 61 := fun q => h ((hb 61 (by decide) (by decide)).mpr q.symm)
  clear h
  refine e_Ok.run (t' := (7, [(5, (0, 6)), (4, (0, b)), (0, (1, 361)), (1, (0, c)), (2, (0, 0)), (3, (0, 13))], [], w)) 2 rfl ?_
  refine e_Ok.run (t' := (19, [(5, (0, 6)), (4, (0, b)), (0, (1, 361)), (1, (0, c)), (2, (0, 0)), (3, (0, 13))], [(0, b), (0, 60)], w)) 7 rfl ?_
  refine e_Ok.if2 rfl (fun h => ?_) (fun h => ?_)
  rotate_left
  · have e : (60 : Int) = c := (hb 60 (by decide) (by decide)).mp (Classical.byContradiction (fun q => h (show (60 : Int) ≠ b from q)))
    subst e
    refine e_Ok.run (t' := (24, [(5, (0, 6)), (4, (0, b)), (0, (1, 361)), (1, (0, 60)), (2, (0, 0)), (3, (0, 13))], [(0, 6)], w)) 1 rfl ?_
    exact e_Ok.rets rfl rfl ⟨by rw [show jIx 60 = 6 by decide +kernel], rfl⟩
  replace h : (60 : Int) ≠ b := h
  have c6 : c ≠ 60 := fun q => h ((hb 60 (by decide) (by decide)).mpr q.symm)
  clear h
  refine e_Ok.run (t' := (7, [(5, (0, 7)), (4, (0, b)), (0, (1, 361)), (1, (0, c)), (2, (0, 0)), (3, (0, 13))], [], w)) 2 rfl ?_
  refine e_Ok.run (t' := (19, [(5, (0, 7)), (4, (0, b)), (0, (1, 361)), (1, (0, c)), (2, (0, 0)), (3, (0, 13))], [(0, b), (0, 62)], w)) 7 rfl ?_
  refine e_Ok.if2 rfl (fun h => ?_) (fun h => ?_)
  rotate_left
  · have e : (62 : Int) = c := (hb 62 (by decide) (by decide)).mp (Classical.byContradiction (fun q => h (show (62 : Int) ≠ b from q)))
    subst e
    refine e_Ok.run (t' := (24, [(5, (0, 7)), (4, (0, b)), (0, (1, 361)), (1, (0, 62)), (2, (0, 0)), (3, (0, 13))], [(0, 7)], w)) 1 rfl ?_
    exact e_Ok.rets rfl rfl ⟨by rw [show jIx 62 = 7 by decide +kernel], rfl⟩
  replace h : (62 : Int) ≠ b := h
  have c7 : c ≠ 62 := fun q => h ((hb 62 (by decide) (by decide)).mpr q.symm)
  clear h
  refine e_Ok.run (t' := (7, [(5, (0, 8)), (4, (0, b)), (0, (1, 361)), (1, (0, c)), (2, (0, 0)), (3, (0, 13))], [], w)) 2 rfl ?_
  refine e_Ok.run (t' := (19, [(5, (0, 8)), (4, (0, b)), (0, (1, 361)), (1, (0, c)), (2, (0, 0)), (3, (0, 13))], [(0, b), (0, 40)], w)) 7 rfl ?_
  refine e_Ok.if2 rfl (fun h => ?_) (fun h => ?_)
  rotate_left
  · have e : (40 : Int) = c := (hb 40 (by decide) (by decide)).mp (Classical.byContradiction (fun q => h (show (40 : Int) ≠ b from q)))
    subst e
    refine e_Ok.run (t' := (24, [(5, (0, 8)), (4, (0, b)), (0, (1, 361)), (1, (0, 40)), (2, (0, 0)), (3, (0, 13))], [(0, 8)], w)) 1 rfl ?_
    exact e_Ok.rets rfl rfl ⟨by rw [show jIx 40 = 8 by decide +kernel], rfl⟩
  replace h : (40 : Int) ≠ b := h
  have c8 : c ≠ 40 := fun q => h ((hb 40 (by decide) (by decide)).mpr q.symm)
  clear h
  refine e_Ok.run (t' := (7, [(5, (0, 9)), (4, (0, b)), (0, (1, 361)), (1, (0, c)), (2, (0, 0)), (3, (0, 13))], [], w)) 2 rfl ?_
  refine e_Ok.run (t' := (19, [(5, (0, 9)), (4, (0, b)), (0, (1, 361)), (1, (0, c)), (2, (0, 0)), (3, (0, 13))], [(0, b), (0, 41)], w)) 7 rfl ?_
  refine e_Ok.if2 rfl (fun h => ?_) (fun h => ?_)
  rotate_left
  · have e : (41 : Int) = c := (hb 41 (by decide) (by decide)).mp (Classical.byContradiction (fun q => h (show (41 : Int) ≠ b from q)))
    subst e
    refine e_Ok.run (t' := (24, [(5, (0, 9)), (4, (0, b)), (0, (1, 361)), (1, (0, 41)), (2, (0, 0)), (3, (0, 13))], [(0, 9)], w)) 1 rfl ?_
    exact e_Ok.rets rfl rfl ⟨by rw [show jIx 41 = 9 by decide +kernel], rfl⟩
  replace h : (41 : Int) ≠ b := h
  have c9 : c ≠ 41 := fun q => h ((hb 41 (by decide) (by decide)).mpr q.symm)
  clear h
  refine e_Ok.run (t' := (7, [(5, (0, 10)), (4, (0, b)), (0, (1, 361)), (1, (0, c)), (2, (0, 0)), (3, (0, 13))], [], w)) 2 rfl ?_
  refine e_Ok.run (t' := (19, [(5, (0, 10)), (4, (0, b)), (0, (1, 361)), (1, (0, c)), (2, (0, 0)), (3, (0, 13))], [(0, b), (0, 44)], w)) 7 rfl ?_
  refine e_Ok.if2 rfl (fun h => ?_) (fun h => ?_)
  rotate_left
  · have e : (44 : Int) = c := (hb 44 (by decide) (by decide)).mp (Classical.byContradiction (fun q => h (show (44 : Int) ≠ b from q)))
    subst e
    refine e_Ok.run (t' := (24, [(5, (0, 10)), (4, (0, b)), (0, (1, 361)), (1, (0, 44)), (2, (0, 0)), (3, (0, 13))], [(0, 10)], w)) 1 rfl ?_
    exact e_Ok.rets rfl rfl ⟨by rw [show jIx 44 = 10 by decide +kernel], rfl⟩
  replace h : (44 : Int) ≠ b := h
  have c10 : c ≠ 44 := fun q => h ((hb 44 (by decide) (by decide)).mpr q.symm)
  clear h
  refine e_Ok.run (t' := (7, [(5, (0, 11)), (4, (0, b)), (0, (1, 361)), (1, (0, c)), (2, (0, 0)), (3, (0, 13))], [], w)) 2 rfl ?_
  refine e_Ok.run (t' := (19, [(5, (0, 11)), (4, (0, b)), (0, (1, 361)), (1, (0, c)), (2, (0, 0)), (3, (0, 13))], [(0, b), (0, 59)], w)) 7 rfl ?_
  refine e_Ok.if2 rfl (fun h => ?_) (fun h => ?_)
  rotate_left
  · have e : (59 : Int) = c := (hb 59 (by decide) (by decide)).mp (Classical.byContradiction (fun q => h (show (59 : Int) ≠ b from q)))
    subst e
    refine e_Ok.run (t' := (24, [(5, (0, 11)), (4, (0, b)), (0, (1, 361)), (1, (0, 59)), (2, (0, 0)), (3, (0, 13))], [(0, 11)], w)) 1 rfl ?_
    exact e_Ok.rets rfl rfl ⟨by rw [show jIx 59 = 11 by decide +kernel], rfl⟩
  replace h : (59 : Int) ≠ b := h
  have c11 : c ≠ 59 := fun q => h ((hb 59 (by decide) (by decide)).mpr q.symm)
  clear h
  refine e_Ok.run (t' := (7, [(5, (0, 12)), (4, (0, b)), (0, (1, 361)), (1, (0, c)), (2, (0, 0)), (3, (0, 13))], [], w)) 2 rfl ?_
  refine e_Ok.run (t' := (19, [(5, (0, 12)), (4, (0, b)), (0, (1, 361)), (1, (0, c)), (2, (0, 0)), (3, (0, 13))], [(0, b), (0, 58)], w)) 7 rfl ?_
  refine e_Ok.if2 rfl (fun h => ?_) (fun h => ?_)
  rotate_left
  · have e : (58 : Int) = c := (hb 58 (by decide) (by decide)).mp (Classical.byContradiction (fun q => h (show (58 : Int) ≠ b from q)))
    subst e
    refine e_Ok.run (t' := (24, [(5, (0, 12)), (4, (0, b)), (0, (1, 361)), (1, (0, 58)), (2, (0, 0)), (3, (0, 13))], [(0, 12)], w)) 1 rfl ?_
    exact e_Ok.rets rfl rfl ⟨by rw [show jIx 58 = 12 by decide +kernel], rfl⟩
  replace h : (58 : Int) ≠ b := h
  have c12 : c ≠ 58 := fun q => h ((hb 58 (by decide) (by decide)).mpr q.symm)
  clear h
  refine e_Ok.run (t' := (7, [(5, (0, 13)), (4, (0, b)), (0, (1, 361)), (1, (0, c)), (2, (0, 0)), (3, (0, 13))], [], w)) 2 rfl ?_
  refine e_Ok.run (t' := (32, [(5, (0, 13)), (4, (0, b)), (0, (1, 361)), (1, (0, c)), (2, (0, 0)), (3, (0, 13))], [(0, -1)], w)) 4 rfl ?_
  exact e_Ok.rets rfl rfl ⟨by rw [jIx_no c0 c1 c2 c3 c4 c5 c6 c7 c8 c9 c10 c11 c12], rfl⟩

theorem j_509 {c : Int} : e_Ok 1 elay code3 I3 10 509 (0, [(0, (1, 361)), (1, (0, c)), (2, (0, 0)), (3, (0, 13))], [], w) (jQ [(0, jIx c)] w) := by
  refine e_Ok.run (t' := (1, [(0, (1, 361)), (1, (0, c)), (2, (0, 0)), (3, (0, 13))], [(0, c)], w)) 1 rfl ?_
  refine e_Ok.call rfl rfl (j_507 (c := c)) ?_
  rintro r w' ⟨rfl, ⟨rfl, h0, h1⟩ | ⟨rfl, h⟩⟩
  · refine e_Ok.run (t' := (33, [(3, (0, 13)), (2, (0, 0)), (0, (1, 361)), (1, (0, c))], [(0, 13), (0, 0), (0, c), (1, 361)], w')) 17 rfl ?_
    refine e_Ok.call (Q' := jQ [(0, jIx c)] w') rfl rfl (j_508 h0 h1) ?_
    rintro r w1 ⟨rfl, rfl⟩
    exact e_Ok.rets rfl rfl ⟨rfl, rfl⟩
  · refine e_Ok.run (t' := (8, [(0, (1, 361)), (1, (0, c)), (2, (0, 0)), (3, (0, 13))], [(0, -1)], w')) 2 rfl ?_
    refine e_Ok.rets rfl rfl ⟨?_, rfl⟩
    rw [jIx_no (by omega) (by omega) (by omega) (by omega) (by omega) (by omega) (by omega) (by omega) (by omega) (by omega) (by omega) (by omega) (by omega)]
theorem j_510 {c : Int} : e_Ok 1 elay code3 I3 11 510 (0, [(0, (1, 358)), (1, (0, c)), (2, (0, 0))], [], w) (jQ [(0, jIx c)] w) := by
  refine e_Ok.run (t' := (1, [(0, (1, 358)), (1, (0, c)), (2, (0, 0))], [(1, 358)], w)) 1 rfl ?_
  refine e_Ok.call (Q' := jQ [(0, 1)] w) rfl rfl (j_502 (by decide)) ?_
  rintro r w' ⟨rfl, rfl⟩
  refine e_Ok.run (t' := (14, [(0, (1, 358)), (1, (0, c)), (2, (0, 0))], [(1, 358), (0, 0), (0, c), (1, 361)], w')) 6 rfl ?_
  refine e_Ok.call (Q' := jQ [(0, 13)] w') rfl rfl j_501_10_358 ?_
  rintro r w1 ⟨rfl, rfl⟩
  refine e_Ok.call (Q' := jQ [(0, jIx c)] w1) rfl rfl j_509 ?_
  rintro r w2 ⟨rfl, rfl⟩
  refine e_Ok.run (t' := (36, [(0, (1, 358)), (1, (0, c)), (2, (0, 0))], [(0, jIx c)], w2)) 1 rfl ?_
  exact e_Ok.rets rfl rfl ⟨rfl, rfl⟩
theorem j_511 {c : Int} : e_Ok 1 elay code3 I3 12 511 (0, [(0, (1, 358)), (1, (0, c))], [], w) (jQ [(0, jIx c)] w) := by
  refine e_Ok.run (t' := (3, [(0, (1, 358)), (1, (0, c))], [(0, 0), (0, c), (1, 358)], w)) 3 rfl ?_
  refine e_Ok.call (Q' := jQ [(0, jIx c)] w) rfl rfl j_510 ?_
  rintro r w' ⟨rfl, rfl⟩
  exact e_Ok.rets rfl rfl ⟨rfl, rfl⟩
end EJD
end
