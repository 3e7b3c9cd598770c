-- part 49i
section
noncomputable section
/-! the JDK's own methods of a text: what they answer -/
def jQ (r : List eV) (w : eW) : List eV → eW → Prop := fun r' w' => r' = r ∧ w' = w
theorem j_bin {F : Int → Int → Option Int} {x y z : Int} {nx p : Nat} {l : eL} {r : List eV} {w : eW} (h : F x y = some z) : ei_bin F nx (p, l, (0, y) :: (0, x) :: r, w) = some (nx, l, (0, z) :: r, w) := by
  show (match F x y with | some z => _ | none => none) = _
  rw [h]
theorem j_un {F : Int → eV} {x : Int} {z : eV} {nx p : Nat} {l : eL} {r : List eV} {w : eW} (h : F x = z) : ei_un F nx (p, l, (0, x) :: r, w) = some (nx, l, z :: r, w) := by
  show some (nx, l, F x :: r, w) = _
  rw [h]
section EJD
variable {w : eW}
theorem j_500 {d : Nat} {j : Int} (hj : j = 357 ∨ j = 358) : e_Ok 1 elay code3 I3 d 500 (0, [(0, (1, j))], [], w) (jQ [(0, 0)] w) := by
  rcases hj with rfl | rfl
  · exact e_Ok.run (t' := (14, [(0, (1, 357))], [(0, 0)], w)) 5 rfl (e_Ok.rets rfl rfl ⟨rfl, rfl⟩)
  · exact e_Ok.run (t' := (14, [(0, (1, 358))], [(0, 0)], w)) 5 rfl (e_Ok.rets rfl rfl ⟨rfl, rfl⟩)
theorem j_502 {d : Nat} {j : Int} (hj : j = 357 ∨ j = 358) : e_Ok 1 elay code3 I3 d 502 (0, [(0, (1, j))], [], w) (jQ [(0, 1)] w) := by
  rcases hj with rfl | rfl
  · exact e_Ok.run (t' := (18, [(0, (1, 357))], [(0, 1)], w)) 7 rfl (e_Ok.rets rfl rfl ⟨rfl, rfl⟩)
  · exact e_Ok.run (t' := (18, [(0, (1, 358))], [(0, 1)], w)) 7 rfl (e_Ok.rets rfl rfl ⟨rfl, rfl⟩)

theorem j_501_12_357 : e_Ok 1 elay code3 I3 12 501 (0, [(0, (1, 357))], [], w) (jQ [(0, 171)] w) := by
  refine e_Ok.run (t' := (6, [(0, (1, 357))], [(1, 357), (0, 171)], w)) 4 rfl ?_
  refine e_Ok.call (Q' := jQ [(0, 0)] w) rfl rfl (j_500 (by decide)) ?_
  rintro r w' ⟨rfl, rfl⟩
  refine e_Ok.step (t' := (10, [(0, (1, 357))], [(0, 171)], w')) rfl (j_bin (by decide +kernel)) ?_
  exact e_Ok.rets rfl rfl ⟨rfl, rfl⟩

theorem j_501_12_358 : e_Ok 1 elay code3 I3 12 501 (0, [(0, (1, 358))], [], w) (jQ [(0, 13)] w) := by
  refine e_Ok.run (t' := (6, [(0, (1, 358))], [(1, 358), (0, 13)], w)) 4 rfl ?_
  refine e_Ok.call (Q' := jQ [(0, 0)] w) rfl rfl (j_500 (by decide)) ?_
  rintro r w' ⟨rfl, rfl⟩
  refine e_Ok.step (t' := (10, [(0, (1, 358))], [(0, 13)], w')) rfl (j_bin (by decide +kernel)) ?_
  exact e_Ok.rets rfl rfl ⟨rfl, rfl⟩

theorem j_501_10_357 : e_Ok 1 elay code3 I3 10 501 (0, [(0, (1, 357))], [], w) (jQ [(0, 171)] w) := by
  refine e_Ok.run (t' := (6, [(0, (1, 357))], [(1, 357), (0, 171)], w)) 4 rfl ?_
  refine e_Ok.call (Q' := jQ [(0, 0)] w) rfl rfl (j_500 (by decide)) ?_
  rintro r w' ⟨rfl, rfl⟩
  refine e_Ok.step (t' := (10, [(0, (1, 357))], [(0, 171)], w')) rfl (j_bin (by decide +kernel)) ?_
  exact e_Ok.rets rfl rfl ⟨rfl, rfl⟩

theorem j_501_10_358 : e_Ok 1 elay code3 I3 10 501 (0, [(0, (1, 358))], [], w) (jQ [(0, 13)] w) := by
  refine e_Ok.run (t' := (6, [(0, (1, 358))], [(1, 358), (0, 13)], w)) 4 rfl ?_
  refine e_Ok.call (Q' := jQ [(0, 0)] w) rfl rfl (j_500 (by decide)) ?_
  rintro r w' ⟨rfl, rfl⟩
  refine e_Ok.step (t' := (10, [(0, (1, 358))], [(0, 13)], w')) rfl (j_bin (by decide +kernel)) ?_
  exact e_Ok.rets rfl rfl ⟨rfl, rfl⟩

theorem j_504 {d : Nat} {i n : Int} (h0 : 0 ≤ i) (h1 : i < n) : e_Ok 1 elay code3 I3 d 504 (0, [(0, (0, i)), (1, (0, n)), (2, (5, 0))], [], w) (jQ [(0, i)] w) := by
  refine e_Ok.run (t' := (1, [(0, (0, i)), (1, (0, n)), (2, (5, 0))], [(0, i)], w)) 1 rfl ?_
  refine e_Ok.if1 rfl (fun h => absurd (show i < 0 from h) (by omega)) (fun _ => ?_)
  refine e_Ok.run (t' := (6, [(0, (0, i)), (1, (0, n)), (2, (5, 0))], [(0, n), (0, i)], w)) 2 rfl ?_
  refine e_Ok.if2 rfl (fun _ => ?_) (fun h => absurd (show i < n from h1) h)
  refine e_Ok.run (t' := (17, [(0, (0, i)), (1, (0, n)), (2, (5, 0))], [(0, i)], w)) 1 rfl ?_
  exact e_Ok.rets rfl rfl ⟨rfl, rfl⟩
theorem j_503 {i n : Int} (h0 : 0 ≤ i) (h1 : i < n) : e_Ok 1 elay code3 I3 10 503 (0, [(0, (0, i)), (1, (0, n))], [], w) (jQ [] w) := by
  refine e_Ok.run (t' := (5, [(0, (0, i)), (1, (0, n))], [(5, 0), (0, n), (0, i)], w)) 3 rfl ?_
  refine e_Ok.call (Q' := jQ [(0, i)] w) rfl rfl (j_504 h0 h1) ?_
  rintro r w' ⟨rfl, rfl⟩
  refine e_Ok.run (t' := (9, [(0, (0, i)), (1, (0, n))], [], w')) 1 rfl ?_
  exact e_Ok.rets rfl rfl ⟨rfl, rfl⟩
/-- every sign of the texts is a small number -/
theorem j_key : ∀ k : Nat, k < 171 → (0 ≤ (e_key.getD k 0).toInt ∧ (e_key.getD k 0).toInt ≤ 127) ∧ eB (fun x y => x &&& y) (e_key.getD k 0).toInt 255 = some (e_key.getD k 0).toInt ∧ ((Int32.ofInt (e_key.getD k 0).toInt).toUInt32 % 65536).toInt32.toInt = (e_key.getD k 0).toInt := by decide +kernel
theorem j_505 {i : Int} (h0 : 0 ≤ i) (h1 : i < 171) : e_Ok 1 elay code3 I3 11 505 (0, [(0, (1, 360)), (1, (0, i))], [], w) (jQ [(0, (e_key.getD i.toNat 0).toInt)] w) := by
  refine e_Ok.run (t' := (3, [(0, (1, 360)), (1, (0, i))], [(0, 171), (0, i)], w)) 3 rfl ?_
  refine e_Ok.call (Q' := jQ [] w) rfl rfl (j_503 h0 h1) ?_
  rintro r w' ⟨rfl, rfl⟩
  refine e_Ok.run (t' := (8, [(0, (1, 360)), (1, (0, i))], [(0, i), (1, 360)], w')) 2 rfl ?_
  refine e_Ok.step (t' := (9, [(0, (1, 360)), (1, (0, i))], [(0, (e_key.getD i.toNat 0).toInt)], w')) rfl ?_ ?_
  · have e : g_tld 9 [(0, i), (1, 360)] = some (9, [(0, (e_key.getD i.toNat 0).toInt)]) := if_pos ⟨rfl, h0, h1⟩
    show (g_tld 9 [(0, i), (1, 360)]).map _ = _
    rw [e]
    rfl
  obtain ⟨⟨k1, k2⟩, k3, k4⟩ := j_key i.toNat (by omega)
  generalize (e_key.getD i.toNat 0).toInt = z at k1 k2 k3 k4 ⊢
  refine e_Ok.run (t' := (12, [(0, (1, 360)), (1, (0, i))], [(0, 255), (0, z)], w')) 1 rfl ?_
  refine e_Ok.step (t' := (13, [(0, (1, 360)), (1, (0, i))], [(0, z)], w')) rfl (j_bin k3) ?_
  refine e_Ok.step (t' := (14, [(0, (1, 360)), (1, (0, i))], [(0, z)], w')) rfl (j_un (by rw [k4])) ?_
  refine e_Ok.rets rfl ?_ ⟨rfl, rfl⟩
  show (bif e_pc (0, z) then some [(0, z)] else none) = some [(0, z)]
  have e : e_pc (0, z) = true := by
    unfold e_pc
    simp only [Bool.and_eq_true, decide_eq_true_eq]
    exact ⟨rfl, k1, k2⟩
  rw [e]
  rfl
theorem j_506 {i : Int} (h0 : 0 ≤ i) (h1 : i < 171) : e_Ok 1 elay code3 I3 12 506 (0, [(0, (1, 357)), (1, (0, i))], [], w) (jQ [(0, (e_key.getD i.toNat 0).toInt)] w) := by
  refine e_Ok.run (t' := (1, [(0, (1, 357)), (1, (0, i))], [(1, 357)], w)) 1 rfl ?_
  refine e_Ok.call (Q' := jQ [(0, 1)] w) rfl rfl (j_502 (by decide)) ?_
  rintro r w' ⟨rfl, rfl⟩
  refine e_Ok.run (t' := (12, [(0, (1, 357)), (1, (0, i))], [(0, i), (1, 360)], w')) 4 rfl ?_
  refine e_Ok.call (Q' := jQ [(0, (e_key.getD i.toNat 0).toInt)] w') rfl rfl (j_505 h0 h1) ?_
  rintro r w1 ⟨rfl, rfl⟩
  obtain ⟨⟨k1, k2⟩, -⟩ := j_key i.toNat (by omega)
  generalize (e_key.getD i.toNat 0).toInt = z at k1 k2 ⊢
  refine e_Ok.rets rfl ?_ ⟨rfl, rfl⟩
  show (bif e_pc (0, z) then some [(0, z)] else none) = some [(0, z)]
  have e : e_pc (0, z) = true := by
    unfold e_pc
    simp only [Bool.and_eq_true, decide_eq_true_eq]
    exact ⟨rfl, k1, k2⟩
  rw [e]
  rfl
theorem j_sgn : ∀ k : Nat, k < 13 → (0 ≤ (e_sgn.getD k 0).toInt ∧ (e_sgn.getD k 0).toInt ≤ 127) ∧ eB (fun x y => x &&& y) (e_sgn.getD k 0).toInt 255 = some (e_sgn.getD k 0).toInt ∧ ((Int32.ofInt (e_sgn.getD k 0).toInt).toUInt32 % 65536).toInt32.toInt = (e_sgn.getD k 0).toInt := by decide +kernel
theorem j_505s {i : Int} (h0 : 0 ≤ i) (h1 : i < 13) : e_Ok 1 elay code3 I3 11 505 (0, [(0, (1, 361)), (1, (0, i))], [], w) (jQ [(0, (e_sgn.getD i.toNat 0).toInt)] w) := by
  refine e_Ok.run (t' := (3, [(0, (1, 361)), (1, (0, i))], [(0, 13), (0, i)], w)) 3 rfl ?_
  refine e_Ok.call (Q' := jQ [] w) rfl rfl (j_503 h0 h1) ?_
  rintro r w' ⟨rfl, rfl⟩
  refine e_Ok.run (t' := (8, [(0, (1, 361)), (1, (0, i))], [(0, i), (1, 361)], w')) 2 rfl ?_
  refine e_Ok.step (t' := (9, [(0, (1, 361)), (1, (0, i))], [(0, (e_sgn.getD i.toNat 0).toInt)], w')) rfl ?_ ?_
  · have e : g_tld 9 [(0, i), (1, 361)] = some (9, [(0, (e_sgn.getD i.toNat 0).toInt)]) := if_pos ⟨rfl, h0, h1⟩
    show (g_tld 9 [(0, i), (1, 361)]).map _ = _
    rw [e]
    rfl
  obtain ⟨⟨k1, k2⟩, k3, k4⟩ := j_sgn i.toNat (by omega)
  generalize (e_sgn.getD i.toNat 0).toInt = z at k1 k2 k3 k4 ⊢
  refine e_Ok.run (t' := (12, [(0, (1, 361)), (1, (0, i))], [(0, 255), (0, z)], w')) 1 rfl ?_
  refine e_Ok.step (t' := (13, [(0, (1, 361)), (1, (0, i))], [(0, z)], w')) rfl (j_bin k3) ?_
  refine e_Ok.step (t' := (14, [(0, (1, 361)), (1, (0, i))], [(0, z)], w')) rfl (j_un (by rw [k4])) ?_
  refine e_Ok.rets rfl ?_ ⟨rfl, rfl⟩
  show (bif e_pc (0, z) then some [(0, z)] else none) = some [(0, z)]
  have e : e_pc (0, z) = true := by
    unfold e_pc
    simp only [Bool.and_eq_true, decide_eq_true_eq]
    exact ⟨rfl, k1, k2⟩
  rw [e]
  rfl
theorem j_506s {i : Int} (h0 : 0 ≤ i) (h1 : i < 13) : e_Ok 1 elay code3 I3 12 506 (0, [(0, (1, 358)), (1, (0, i))], [], w) (jQ [(0, (e_sgn.getD i.toNat 0).toInt)] w) := by
  refine e_Ok.run (t' := (1, [(0, (1, 358)), (1, (0, i))], [(1, 358)], w)) 1 rfl ?_
  refine e_Ok.call (Q' := jQ [(0, 1)] w) rfl rfl (j_502 (by decide)) ?_
  rintro r w' ⟨rfl, rfl⟩
  refine e_Ok.run (t' := (12, [(0, (1, 358)), (1, (0, i))], [(0, i), (1, 361)], w')) 4 rfl ?_
  refine e_Ok.call (Q' := jQ [(0, (e_sgn.getD i.toNat 0).toInt)] w') rfl rfl (j_505s h0 h1) ?_
  rintro r w1 ⟨rfl, rfl⟩
  obtain ⟨⟨k1, k2⟩, -⟩ := j_sgn i.toNat (by omega)
  generalize (e_sgn.getD i.toNat 0).toInt = z at k1 k2 ⊢
  refine e_Ok.rets rfl ?_ ⟨rfl, rfl⟩
  show (bif e_pc (0, z) then some [(0, z)] else none) = some [(0, z)]
  have e : e_pc (0, z) = true := by
    unfold e_pc
    simp only [Bool.and_eq_true, decide_eq_true_eq]
    exact ⟨rfl, k1, k2⟩
  rw [e]
  rfl
theorem j_507 {d : Nat} {c : Int} : e_Ok 1 elay code3 I3 d 507 (0, [(0, (0, c))], [], w) (fun r w' => w' = w ∧ ((r = [(0, 1)] ∧ 0 ≤ c ∧ c ≤ 255) ∨ (r = [(0, 0)] ∧ (c < 0 ∨ 255 < c)))) := by
  refine e_Ok.run (t' := (1, [(0, (0, c))], [(0, c)], w)) 1 rfl ?_
  refine e_Ok.if1 rfl (fun h => ?_) (fun h => ?_)
  · replace h : c < 0 := h
    refine e_Ok.run (t' := (16, [(0, (0, c))], [(0, 0)], w)) 1 rfl ?_
    exact e_Ok.rets rfl rfl ⟨rfl, Or.inr ⟨rfl, Or.inl h⟩⟩
  · replace h : ¬ c < 0 := h
    refine e_Ok.run (t' := (8, [(0, (0, c))], [(0, 255), (0, c)], w)) 2 rfl ?_
    refine e_Ok.if2 rfl (fun h2 => ?_) (fun h2 => ?_)
    · replace h2 : c > 255 := h2
      refine e_Ok.run (t' := (16, [(0, (0, c))], [(0, 0)], w)) 1 rfl ?_
      exact e_Ok.rets rfl rfl ⟨rfl, Or.inr ⟨rfl, Or.inr h2⟩⟩
    · replace h2 : ¬ c > 255 := h2
      refine e_Ok.run (t' := (16, [(0, (0, c))], [(0, 1)], w)) 2 rfl ?_
      exact e_Ok.rets rfl rfl ⟨rfl, Or.inl ⟨rfl, by omega, by omega⟩⟩
/-- where a sign stands -/
def jIx (c : Int) : Int := match e_sgn.findIdx? (fun z => decide (z.toInt = c)) with
  | some k => (k : Int)
  | none => -1

theorem jIx_no {c : Int} (h0 : c ≠ 43) (h1 : c ≠ 45) (h2 : c ≠ 42) (h3 : c ≠ 47) (h4 : c ≠ 37) (h5 : c ≠ 61) (h6 : c ≠ 60) (h7 : c ≠ 62) (h8 : c ≠ 40) (h9 : c ≠ 41) (h10 : c ≠ 44) (h11 : c ≠ 59) (h12 : c ≠ 58) : jIx c = -1 := by
  have e : e_sgn.findIdx? (fun z => decide (z.toInt = c)) = none := by
    rw [List.findIdx?_eq_none_iff]
    intro x hx
    have a : ∀ y ∈ e_sgn, y.toInt = 43 ∨ y.toInt = 45 ∨ y.toInt = 42 ∨ y.toInt = 47 ∨ y.toInt = 37 ∨ y.toInt = 61 ∨ y.toInt = 60 ∨ y.toInt = 62 ∨ y.toInt = 40 ∨ y.toInt = 41 ∨ y.toInt = 44 ∨ y.toInt = 59 ∨ y.toInt = 58 := by decide +kernel
    have q := a x hx
    exact decide_eq_false (by omega)
  unfold jIx
  rw [e]

theorem j_508 {d : Nat} {c : Int} (h0 : 0 ≤ c) (h1 : c ≤ 255) : e_Ok 1 elay code3 I3 d 508 (0, [(0, (1, 361)), (1, (0, c)), (2, (0, 0)), (3, (0, 13))], [], w) (jQ [(0, jIx c)] w) := by
  have hb : ∀ z : Int, 0 ≤ z → z ≤ 127 → (z = c.bmod 256 ↔ z = c) := fun z z0 z1 => by
    have e : c.bmod 256 = if c < 128 then c else c - 256 := by
      unfold Int.bmod
      have : c % ((256 : Nat) : Int) = c := Int.emod_eq_of_lt h0 (by omega)
      rw [this]
      have : ((((256 : Nat) : Int) + 1) / 2) = 128 := by decide
      rw [this]
      rfl
    rw [e]
    split <;> omega
  generalize hbb : c.bmod 256 = b at hb
  refine e_Ok.run (t' := (1, [(0, (1, 361)), (1, (0, c)), (2, (0, 0)), (3, (0, 13))], [(0, c)], w)) 1 rfl ?_
  refine e_Ok.step (t' := (2, [(0, (1, 361)), (1, (0, c)), (2, (0, 0)), (3, (0, 13))], [(0, b)], w)) rfl (j_un (by rw [hbb])) ?_
  refine e_Ok.run (t' := (7, [(5, (0, 0)), (4, (0, b)), (0, (1, 361)), (1, (0, c)), (2, (0, 0)), (3, (0, 13))], [], w)) 3 rfl ?_
  refine e_Ok.run (t' := (19, [(5, (0, 0)), (4, (0, b)), (0, (1, 361)), (1, (0, c)), (2, (0, 0)), (3, (0, 13))], [(0, b), (0, 43)], w)) 7 rfl ?_
  refine e_Ok.if2 rfl (fun h => ?_) (fun h => ?_)
  rotate_left
  · have e : (43 : Int) = c := (hb 43 (by decide) (by decide)).mp (Classical.byContradiction (fun q => h (show (43 : Int) ≠ b from q)))
    subst e
    refine e_Ok.run (t' := (24, [(5, (0, 0)), (4, (0, b)), (0, (1, 361)), (1, (0, 43)), (2, (0, 0)), (3, (0, 13))], [(0, 0)], w)) 1 rfl ?_
    exact e_Ok.rets rfl rfl ⟨by rw [show jIx 43 = 0 by decide +kernel], rfl⟩
  replace h : (43 : Int) ≠ b := h
  have c0 : c ≠ 43 := fun q => h ((hb 43 (by decide) (by decide)).mpr q.symm)
  clear h
  refine e_Ok.run (t' := (7, [(5, (0, 1)), (4, (0, b)), (0, (1, 361)), (1, (0, c)), (2, (0, 0)), (3, (0, 13))], [], w)) 2 rfl ?_
  refine e_Ok.run (t' := (19, [(5, (0, 1)), (4, (0, b)), (0, (1, 361)), (1, (0, c)), (2, (0, 0)), (3, (0, 13))], [(0, b), (0, 45)], w)) 7 rfl ?_
  refine e_Ok.if2 rfl (fun h => ?_) (fun h => ?_)
  rotate_left
  · have e : (45 : Int) = c := (hb 45 (by decide) (by decide)).mp (Classical.byContradiction (fun q => h (show (45 : Int) ≠ b from q)))
    subst e
    refine e_Ok.run (t' := (24, [(5, (0, 1)), (4, (0, b)), (0, (1, 361)), (1, (0, 45)), (2, (0, 0)), (3, (0, 13))], [(0, 1)], w)) 1 rfl ?_
    exact e_Ok.rets rfl rfl ⟨by rw [show jIx 45 = 1 by decide +kernel], rfl⟩
  replace h : (45 : Int) ≠ b := h
  have c1 : c ≠ 45 := fun q => h ((hb 45 (by decide) (by decide)).mpr q.symm)
  clear h
  refine e_Ok.run (t' := (7, [(5, (0, 2)), (4, (0, b)), (0, (1, 361)), (1, (0, c)), (2, (0, 0)), (3, (0, 13))], [], w)) 2 rfl ?_
  refine e_Ok.run (t' := (19, [(5, (0, 2)), (4, (0, b)), (0, (1, 361)), (1, (0, c)), (2, (0, 0)), (3, (0, 13))], [(0, b), (0, 42)], w)) 7 rfl ?_
  refine e_Ok.if2 rfl (fun h => ?_) (fun h => ?_)
  rotate_left
  · have e : (42 : Int) = c := (hb 42 (by decide) (by decide)).mp (Classical.byContradiction (fun q => h (show (42 : Int) ≠ b from q)))
    subst e
    refine e_Ok.run (t' := (24, [(5, (0, 2)), (4, (0, b)), (0, (1, 361)), (1, (0, 42)), (2, (0, 0)), (3, (0, 13))], [(0, 2)], w)) 1 rfl ?_
    exact e_Ok.rets rfl rfl ⟨by rw [show jIx 42 = 2 by decide +kernel], rfl⟩
  replace h : (42 : Int) ≠ b := h
  have c2 : c ≠ 42 := fun q => h ((hb 42 (by decide) (by decide)).mpr q.symm)
  clear h
  refine e_Ok.run (t' := (7, [(5, (0, 3)), (4, (0, b)), (0, (1, 361)), (1, (0, c)), (2, (0, 0)), (3, (0, 13))], [], w)) 2 rfl ?_
  refine e_Ok.run (t' := (19, [(5, (0, 3)), (4, (0, b)), (0, (1, 361)), (1, (0, c)), (2, (0, 0)), (3, (0, 13))], [(0, b), (0, 47)], w)) 7 rfl ?_
  refine e_Ok.if2 rfl (fun h => ?_) (fun h => ?_)
  rotate_left
  · have e : (47 : Int) = c := (hb 47 (by decide) (by decide)).mp (Classical.byContradiction (fun q => h (show (47 : Int) ≠ b from q)))
    subst e
    refine e_Ok.run (t' := (24, [(5, (0, 3)), (4, (0, b)), (0, (1, 361)), (1, (0, 47)), (2, (0, 0)), (3, (0, 13))], [(0, 3)], w)) 1 rfl ?_
    exact e_Ok.rets rfl rfl ⟨by rw [show jIx 47 = 3 by decide +kernel], rfl⟩
  replace h : (47 : Int) ≠ b := h
  have c3 : c ≠ 47 := fun q => h ((hb 47 (by decide) (by decide)).mpr q.symm)
  clear h
  refine e_Ok.run (t' := (7, [(5, (0, 4)), (4, (0, b)), (0, (1, 361)), (1, (0, c)), (2, (0, 0)), (3, (0, 13))], [], w)) 2 rfl ?_
  refine e_Ok.run (t' := (19, [(5, (0, 4)), (4, (0, b)), (0, (1, 361)), (1, (0, c)), (2, (0, 0)), (3, (0, 13))], [(0, b), (0, 37)], w)) 7 rfl ?_
  refine e_Ok.if2 rfl (fun h => ?_) (fun h => ?_)
  rotate_left
  · have e : (37 : Int) = c := (hb 37 (by decide) (by decide)).mp (Classical.byContradiction (fun q => h (show (37 : Int) ≠ b from q)))
    subst e
    refine e_Ok.run (t' := (24, [(5, (0, 4)), (4, (0, b)), (0, (1, 361)), (1, (0, 37)), (2, (0, 0)), (3, (0, 13))], [(0, 4)], w)) 1 rfl ?_
    exact e_Ok.rets rfl rfl ⟨by rw [show jIx 37 = 4 by decide +kernel], rfl⟩
  replace h : (37 : Int) ≠ b := h
  have c4 : c ≠ 37 := fun q => h ((hb 37 (by decide) (by decide)).mpr q.symm)
  clear h
  refine e_Ok.run (t' := (7, [(5, (0, 5)), (4, (0, b)), (0, (1, 361)), (1, (0, c)), (2, (0, 0)), (3, (0, 13))], [], w)) 2 rfl ?_
  refine e_Ok.run (t' := (19, [(5, (0, 5)), (4, (0, b)), (0, (1, 361)), (1, (0, c)), (2, (0, 0)), (3, (0, 13))], [(0, b), (0, 61)], w)) 7 rfl ?_
  refine e_Ok.if2 rfl (fun h => ?_) (fun h => ?_)
  rotate_left
  · have e : (61 : Int) = c := (hb 61 (by decide) (by decide)).mp (Classical.byContradiction (fun q => h (show (61 : Int) ≠ b from q)))
    subst e
    refine e_Ok.run (t' := (24, [(5, (0, 5)), (4, (0, b)), (0, (1, 361)), (1, (0, 61)), (2, (0, 0)), (3, (0, 13))], [(0, 5)], w)) 1 rfl ?_
    exact e_Ok.rets rfl rfl ⟨by rw [show jIx 61 = 5 by decide +kernel], rfl⟩
  replace h : (61 : Int) ≠ b := h
  have c5 : c ≠ 61 := fun q => h ((hb 61 (by decide) (by decide)).mpr q.symm)
  clear h
  refine e_Ok.run (t' := (7, [(5, (0, 6)), (4, (0, b)), (0, (1, 361)), (1, (0, c)), (2, (0, 0)), (3, (0, 13))], [], w)) 2 rfl ?_
  refine e_Ok.run (t' := (19, [(5, (0, 6)), (4, (0, b)), (0, (1, 361)), (1, (0, c)), (2, (0, 0)), (3, (0, 13))], [(0, b), (0, 60)], w)) 7 rfl ?_
  refine e_Ok.if2 rfl (fun h => ?_) (fun h => ?_)
  rotate_left
  · have e : (60 : Int) = c := (hb 60 (by decide) (by decide)).mp (Classical.byContradiction (fun q => h (show (60 : Int) ≠ b from q)))
    subst e
    refine e_Ok.run (t' := (24, [(5, (0, 6)), (4, (0, b)), (0, (1, 361)), (1, (0, 60)), (2, (0, 0)), (3, (0, 13))], [(0, 6)], w)) 1 rfl ?_
    exact e_Ok.rets rfl rfl ⟨by rw [show jIx 60 = 6 by decide +kernel], rfl⟩
  replace h : (60 : Int) ≠ b := h
  have c6 : c ≠ 60 := fun q => h ((hb 60 (by decide) (by decide)).mpr q.symm)
  clear h
  refine e_Ok.run (t' := (7, [(5, (0, 7)), (4, (0, b)), (0, (1, 361)), (1, (0, c)), (2, (0, 0)), (3, (0, 13))], [], w)) 2 rfl ?_
  refine e_Ok.run (t' := (19, [(5, (0, 7)), (4, (0, b)), (0, (1, 361)), (1, (0, c)), (2, (0, 0)), (3, (0, 13))], [(0, b), (0, 62)], w)) 7 rfl ?_
  refine e_Ok.if2 rfl (fun h => ?_) (fun h => ?_)
  rotate_left
  · have e : (62 : Int) = c := (hb 62 (by decide) (by decide)).mp (Classical.byContradiction (fun q => h (show (62 : Int) ≠ b from q)))
    subst e
    refine e_Ok.run (t' := (24, [(5, (0, 7)), (4, (0, b)), (0, (1, 361)), (1, (0, 62)), (2, (0, 0)), (3, (0, 13))], [(0, 7)], w)) 1 rfl ?_
    exact e_Ok.rets rfl rfl ⟨by rw [show jIx 62 = 7 by decide +kernel], rfl⟩
  replace h : (62 : Int) ≠ b := h
  have c7 : c ≠ 62 := fun q => h ((hb 62 (by decide) (by decide)).mpr q.symm)
  clear h
  refine e_Ok.run (t' := (7, [(5, (0, 8)), (4, (0, b)), (0, (1, 361)), (1, (0, c)), (2, (0, 0)), (3, (0, 13))], [], w)) 2 rfl ?_
  refine e_Ok.run (t' := (19, [(5, (0, 8)), (4, (0, b)), (0, (1, 361)), (1, (0, c)), (2, (0, 0)), (3, (0, 13))], [(0, b), (0, 40)], w)) 7 rfl ?_
  refine e_Ok.if2 rfl (fun h => ?_) (fun h => ?_)
  rotate_left
  · have e : (40 : Int) = c := (hb 40 (by decide) (by decide)).mp (Classical.byContradiction (fun q => h (show (40 : Int) ≠ b from q)))
    subst e
    refine e_Ok.run (t' := (24, [(5, (0, 8)), (4, (0, b)), (0, (1, 361)), (1, (0, 40)), (2, (0, 0)), (3, (0, 13))], [(0, 8)], w)) 1 rfl ?_
    exact e_Ok.rets rfl rfl ⟨by rw [show jIx 40 = 8 by decide +kernel], rfl⟩
  replace h : (40 : Int) ≠ b := h
  have c8 : c ≠ 40 := fun q => h ((hb 40 (by decide) (by decide)).mpr q.symm)
  clear h
  refine e_Ok.run (t' := (7, [(5, (0, 9)), (4, (0, b)), (0, (1, 361)), (1, (0, c)), (2, (0, 0)), (3, (0, 13))], [], w)) 2 rfl ?_
  refine e_Ok.run (t' := (19, [(5, (0, 9)), (4, (0, b)), (0, (1, 361)), (1, (0, c)), (2, (0, 0)), (3, (0, 13))], [(0, b), (0, 41)], w)) 7 rfl ?_
  refine e_Ok.if2 rfl (fun h => ?_) (fun h => ?_)
  rotate_left
  · have e : (41 : Int) = c := (hb 41 (by decide) (by decide)).mp (Classical.byContradiction (fun q => h (show (41 : Int) ≠ b from q)))
    subst e
    refine e_Ok.run (t' := (24, [(5, (0, 9)), (4, (0, b)), (0, (1, 361)), (1, (0, 41)), (2, (0, 0)), (3, (0, 13))], [(0, 9)], w)) 1 rfl ?_
    exact e_Ok.rets rfl rfl ⟨by rw [show jIx 41 = 9 by decide +kernel], rfl⟩
  replace h : (41 : Int) ≠ b := h
  have c9 : c ≠ 41 := fun q => h ((hb 41 (by decide) (by decide)).mpr q.symm)
  clear h
  refine e_Ok.run (t' := (7, [(5, (0, 10)), (4, (0, b)), (0, (1, 361)), (1, (0, c)), (2, (0, 0)), (3, (0, 13))], [], w)) 2 rfl ?_
  refine e_Ok.run (t' := (19, [(5, (0, 10)), (4, (0, b)), (0, (1, 361)), (1, (0, c)), (2, (0, 0)), (3, (0, 13))], [(0, b), (0, 44)], w)) 7 rfl ?_
  refine e_Ok.if2 rfl (fun h => ?_) (fun h => ?_)
  rotate_left
  · have e : (44 : Int) = c := (hb 44 (by decide) (by decide)).mp (Classical.byContradiction (fun q => h (show (44 : Int) ≠ b from q)))
    subst e
    refine e_Ok.run (t' := (24, [(5, (0, 10)), (4, (0, b)), (0, (1, 361)), (1, (0, 44)), (2, (0, 0)), (3, (0, 13))], [(0, 10)], w)) 1 rfl ?_
    exact e_Ok.rets rfl rfl ⟨by rw [show jIx 44 = 10 by decide +kernel], rfl⟩
  replace h : (44 : Int) ≠ b := h
  have c10 : c ≠ 44 := fun q => h ((hb 44 (by decide) (by decide)).mpr q.symm)
  clear h
  refine e_Ok.run (t' := (7, [(5, (0, 11)), (4, (0, b)), (0, (1, 361)), (1, (0, c)), (2, (0, 0)), (3, (0, 13))], [], w)) 2 rfl ?_
  refine e_Ok.run (t' := (19, [(5, (0, 11)), (4, (0, b)), (0, (1, 361)), (1, (0, c)), (2, (0, 0)), (3, (0, 13))], [(0, b), (0, 59)], w)) 7 rfl ?_
  refine e_Ok.if2 rfl (fun h => ?_) (fun h => ?_)
  rotate_left
  · have e : (59 : Int) = c := (hb 59 (by decide) (by decide)).mp (Classical.byContradiction (fun q => h (show (59 : Int) ≠ b from q)))
    subst e
    refine e_Ok.run (t' := (24, [(5, (0, 11)), (4, (0, b)), (0, (1, 361)), (1, (0, 59)), (2, (0, 0)), (3, (0, 13))], [(0, 11)], w)) 1 rfl ?_
    exact e_Ok.rets rfl rfl ⟨by rw [show jIx 59 = 11 by decide +kernel], rfl⟩
  replace h : (59 : Int) ≠ b := h
  have c11 : c ≠ 59 := fun q => h ((hb 59 (by decide) (by decide)).mpr q.symm)
  clear h
  refine e_Ok.run (t' := (7, [(5, (0, 12)), (4, (0, b)), (0, (1, 361)), (1, (0, c)), (2, (0, 0)), (3, (0, 13))], [], w)) 2 rfl ?_
  refine e_Ok.run (t' := (19, [(5, (0, 12)), (4, (0, b)), (0, (1, 361)), (1, (0, c)), (2, (0, 0)), (3, (0, 13))], [(0, b), (0, 58)], w)) 7 rfl ?_
  refine e_Ok.if2 rfl (fun h => ?_) (fun h => ?_)
  rotate_left
  · have e : (58 : Int) = c := (hb 58 (by decide) (by decide)).mp (Classical.byContradiction (fun q => h (show (58 : Int) ≠ b from q)))
    subst e
    refine e_Ok.run (t' := (24, [(5, (0, 12)), (4, (0, b)), (0, (1, 361)), (1, (0, 58)), (2, (0, 0)), (3, (0, 13))], [(0, 12)], w)) 1 rfl ?_
    exact e_Ok.rets rfl rfl ⟨by rw [show jIx 58 = 12 by decide +kernel], rfl⟩
  replace h : (58 : Int) ≠ b := h
  have c12 : c ≠ 58 := fun q => h ((hb 58 (by decide) (by decide)).mpr q.symm)
  clear h
  refine e_Ok.run (t' := (7, [(5, (0, 13)), (4, (0, b)), (0, (1, 361)), (1, (0, c)), (2, (0, 0)), (3, (0, 13))], [], w)) 2 rfl ?_
  refine e_Ok.run (t' := (32, [(5, (0, 13)), (4, (0, b)), (0, (1, 361)), (1, (0, c)), (2, (0, 0)), (3, (0, 13))], [(0, -1)], w)) 4 rfl ?_
  exact e_Ok.rets rfl rfl ⟨by rw [jIx_no c0 c1 c2 c3 c4 c5 c6 c7 c8 c9 c10 c11 c12], rfl⟩

theorem j_509 {c : Int} : e_Ok 1 elay code3 I3 10 509 (0, [(0, (1, 361)), (1, (0, c)), (2, (0, 0)), (3, (0, 13))], [], w) (jQ [(0, jIx c)] w) := by
  refine e_Ok.run (t' := (1, [(0, (1, 361)), (1, (0, c)), (2, (0, 0)), (3, (0, 13))], [(0, c)], w)) 1 rfl ?_
  refine e_Ok.call rfl rfl (j_507 (c := c)) ?_
  rintro r w' ⟨rfl, ⟨rfl, h0, h1⟩ | ⟨rfl, h⟩⟩
  · refine e_Ok.run (t' := (33, [(3, (0, 13)), (2, (0, 0)), (0, (1, 361)), (1, (0, c))], [(0, 13), (0, 0), (0, c), (1, 361)], w')) 17 rfl ?_
    refine e_Ok.call (Q' := jQ [(0, jIx c)] w') rfl rfl (j_508 h0 h1) ?_
    rintro r w1 ⟨rfl, rfl⟩
    exact e_Ok.rets rfl rfl ⟨rfl, rfl⟩
  · refine e_Ok.run (t' := (8, [(0, (1, 361)), (1, (0, c)), (2, (0, 0)), (3, (0, 13))], [(0, -1)], w')) 2 rfl ?_
    refine e_Ok.rets rfl rfl ⟨?_, rfl⟩
    rw [jIx_no (by omega) (by omega) (by omega) (by omega) (by omega) (by omega) (by omega) (by omega) (by omega) (by omega) (by omega) (by omega) (by omega)]
theorem j_510 {c : Int} : e_Ok 1 elay code3 I3 11 510 (0, [(0, (1, 358)), (1, (0, c)), (2, (0, 0))], [], w) (jQ [(0, jIx c)] w) := by
  refine e_Ok.run (t' := (1, [(0, (1, 358)), (1, (0, c)), (2, (0, 0))], [(1, 358)], w)) 1 rfl ?_
  refine e_Ok.call (Q' := jQ [(0, 1)] w) rfl rfl (j_502 (by decide)) ?_
  rintro r w' ⟨rfl, rfl⟩
  refine e_Ok.run (t' := (14, [(0, (1, 358)), (1, (0, c)), (2, (0, 0))], [(1, 358), (0, 0), (0, c), (1, 361)], w')) 6 rfl ?_
  refine e_Ok.call (Q' := jQ [(0, 13)] w') rfl rfl j_501_10_358 ?_
  rintro r w1 ⟨rfl, rfl⟩
  refine e_Ok.call (Q' := jQ [(0, jIx c)] w1) rfl rfl j_509 ?_
  rintro r w2 ⟨rfl, rfl⟩
  refine e_Ok.run (t' := (36, [(0, (1, 358)), (1, (0, c)), (2, (0, 0))], [(0, jIx c)], w2)) 1 rfl ?_
  exact e_Ok.rets rfl rfl ⟨rfl, rfl⟩
theorem j_511 {c : Int} : e_Ok 1 elay code3 I3 12 511 (0, [(0, (1, 358)), (1, (0, c))], [], w) (jQ [(0, jIx c)] w) := by
  refine e_Ok.run (t' := (3, [(0, (1, 358)), (1, (0, c))], [(0, 0), (0, c), (1, 358)], w)) 3 rfl ?_
  refine e_Ok.call (Q' := jQ [(0, jIx c)] w) rfl rfl j_510 ?_
  rintro r w' ⟨rfl, rfl⟩
  exact e_Ok.rets rfl rfl ⟨rfl, rfl⟩
end EJD
end
end
-- part 49j
section
noncomputable section
/-! the places where a text is asked -/
theorem mac_text {M M' na pc : Nat} {g : List eV → Option (Nat × List eV)} {l : Launch} (hM : I3 M = eI M) (hE : x_Cl (xm_b (I3 M)) (xm_y (I3 M)).cls (xm_l (I3 M)) (xm_y (I3 M)).name (xm_c (I3 M)) (xm_s (I3 M)) pc (I3 M') na) (h : ∀ (st : List eV) (q : Nat × List eV), g st = some q → q.1 = pc + 3 ∧ e_may 1 elay 12 M' na (I3 M') st (st.take na).reverse (st.drop na) = true ∧ ∃ r, q.2 = r ++ st.drop na ∧ ∀ w, e_Ok 1 elay code3 I3 12 M' (0, e_ent 0 (st.take na).reverse, [], w) (jQ r w)) : e_Mac 20 eft cls elay (eI M) l pc (e_S g) := by
  rw [← hM]
  intro d ad ce sl p e R s m args below meth c D A H0 Q hfd C hce hsl hd hdl hA t t' l' u ht hf hs hu IH
  subst ht
  unfold e_S at hf
  cases hgt : g t.2.2.1 with
  | none => rw [hgt] at hf; cases hf
  | some q =>
    rw [hgt] at hf
    have hf' : some (q.1, t.2.1, q.2, t.2.2.2) = some t' := hf
    cases hf'
    obtain ⟨q1, hm, r, q2, hok⟩ := h _ _ hgt
    have hb := hm
    unfold e_may at hb
    simp only [Bool.and_eq_true] at hb
    obtain ⟨r1, w1, ⟨hr1, hw1⟩, hMet⟩ := e_Ok.met (l := l) tab3 (by decide) (Nat.le_of_ble_eq_true hb.2.2.2.2.1) (hok u)
    subst hr1
    subst hw1
    refine e_call tab3 (M := M) (M' := M') (d' := 12) (t := (t.1, l', t.2.2.1, w1)) hE hm hMet C hce hsl (by omega) (by omega) hA ?_
    have key := IH l' w1 hs hu
    have e : (q.1, l', q.2, w1) = ((t.1 + 3, l', r1 ++ t.2.2.1.drop na, w1) : eS) := by rw [q1, q2]
    show e_Good _ _ _ _ _ _ _ _ _ _ _ _ _ _ _ _ _ _ _ _ _ (t.1 + 3, l', r1 ++ t.2.2.1.drop na, w1)
    rw [← e]
    exact key
theorem g_sl_ok {pc : Nat} : ∀ (st : List eV) (q : Nat × List eV), g_sl (pc + 3) st = some q → q.1 = pc + 3 ∧ e_may 1 elay 12 501 1 (I3 501) st (st.take 1).reverse (st.drop 1) = true ∧ ∃ r, q.2 = r ++ st.drop 1 ∧ ∀ w, e_Ok 1 elay code3 I3 12 501 (0, e_ent 0 (st.take 1).reverse, [], w) (jQ r w) := by
  intro st q h
  unfold g_sl at h
  split at h
  · rename_i j r
    cases hb : Nat.ble (e_cats r) 8 with
    | false => rw [hb] at h; cases h
    | true =>
      rw [hb] at h
      unfold e_len at h
      by_cases h1 : j = 357
      · subst h1
        cases h
        refine ⟨rfl, ?_, [(0, 171)], rfl, fun w => j_501_12_357⟩
        show e_may 1 elay 12 501 1 (I3 501) ((1, 357) :: r) [(1, 357)] r = true
        unfold e_may
        rw [hb]
        rfl
      · by_cases h2 : j = 358
        · subst h2
          cases h
          refine ⟨rfl, ?_, [(0, 13)], rfl, fun w => j_501_12_358⟩
          show e_may 1 elay 12 501 1 (I3 501) ((1, 358) :: r) [(1, 358)] r = true
          unfold e_may
          rw [hb]
          rfl
        · simp only [cond_true, if_neg h1, if_neg h2] at h
          cases h
  · cases h
theorem g_sc_ok {pc : Nat} : ∀ (st : List eV) (q : Nat × List eV), g_sc (pc + 3) st = some q → q.1 = pc + 3 ∧ e_may 1 elay 12 506 2 (I3 506) st (st.take 2).reverse (st.drop 2) = true ∧ ∃ r, q.2 = r ++ st.drop 2 ∧ ∀ w, e_Ok 1 elay code3 I3 12 506 (0, e_ent 0 (st.take 2).reverse, [], w) (jQ r w) := by
  intro st q h
  unfold g_sc at h
  split at h
  · rename_i i j r
    cases hb : Nat.ble (e_cats r) 8 with
    | false => rw [hb] at h; cases h
    | true =>
      rw [hb] at h
      unfold e_chr at h
      by_cases h1 : j = 357 ∧ 0 ≤ i ∧ i < 171
      · rw [if_pos h1] at h
        obtain ⟨rfl, h0, h2⟩ := h1
        cases h
        refine ⟨rfl, ?_, [(0, (e_key.getD i.toNat 0).toInt)], rfl, fun w => j_506 h0 h2⟩
        show e_may 1 elay 12 506 2 (I3 506) ((0, i) :: (1, 357) :: r) [(1, 357), (0, i)] r = true
        unfold e_may
        rw [hb]
        rfl
      · rw [if_neg h1] at h
        by_cases h3 : j = 358 ∧ 0 ≤ i ∧ i < 13
        · rw [if_pos h3] at h
          obtain ⟨rfl, h0, h2⟩ := h3
          cases h
          refine ⟨rfl, ?_, [(0, (e_sgn.getD i.toNat 0).toInt)], rfl, fun w => j_506s h0 h2⟩
          show e_may 1 elay 12 506 2 (I3 506) ((0, i) :: (1, 358) :: r) [(1, 358), (0, i)] r = true
          unfold e_may
          rw [hb]
          rfl
        · rw [if_neg h3] at h
          cases h
  · cases h
theorem g_ix_ok {pc : Nat} : ∀ (st : List eV) (q : Nat × List eV), g_ix (pc + 3) st = some q → q.1 = pc + 3 ∧ e_may 1 elay 12 511 2 (I3 511) st (st.take 2).reverse (st.drop 2) = true ∧ ∃ r, q.2 = r ++ st.drop 2 ∧ ∀ w, e_Ok 1 elay code3 I3 12 511 (0, e_ent 0 (st.take 2).reverse, [], w) (jQ r w) := by
  intro st q h
  unfold g_ix at h
  split at h
  · rename_i c j r
    cases hb : Nat.ble (e_cats r) 8 with
    | false => rw [hb] at h; cases h
    | true =>
      rw [hb] at h
      unfold e_idx at h
      by_cases h1 : j = 358
      · subst h1
        replace h : some (pc + 3, (0, jIx c) :: r) = some q := h
        cases h
        refine ⟨rfl, ?_, [(0, jIx c)], rfl, fun w => j_511⟩
        show e_may 1 elay 12 511 2 (I3 511) ((0, c) :: (1, 358) :: r) [(1, 358), (0, c)] r = true
        unfold e_may
        rw [hb]
        rfl
      · simp only [cond_true, if_neg h1] at h
        cases h
  · cases h

theorem mac_126_17 {l : Launch} : e_Mac 20 eft cls elay (eI 126) l 17 (e_S (g_sl 20)) := mac_text (M := 126) (M' := 501) rfl (show x_Cl (xm_b n_126) (xm_y n_126).cls (xm_l n_126) (xm_y n_126).name (xm_c n_126) (xm_s n_126) 17 n_501 1 from xr_callV (q' := n_501) (ix := 108) (n := 0) (in_t5 (List.mem_of_getElem? (i := 118) rfl) rfl) good_w (in_t1 (List.mem_of_getElem? (i := 16) rfl) rfl) (in_t5 (List.mem_of_getElem? (i := 115) rfl) rfl) (in_t5 (List.mem_of_getElem? (i := 116) rfl) rfl) (in_t5 (List.mem_of_getElem? (i := 117) rfl) rfl) (by decide +kernel) (by decide +kernel) (by decide +kernel) (x_dk dn_126_0_0_ok 11 rfl)) g_sl_ok
theorem mac_126_27 {l : Launch} : e_Mac 20 eft cls elay (eI 126) l 27 (e_S (g_sc 30)) := mac_text (M := 126) (M' := 506) rfl (show x_Cl (xm_b n_126) (xm_y n_126).cls (xm_l n_126) (xm_y n_126).name (xm_c n_126) (xm_s n_126) 27 n_506 2 from xr_callV (q' := n_506) (ix := 112) (n := 1) (in_t5 (List.mem_of_getElem? (i := 128) rfl) rfl) good_w (in_t1 (List.mem_of_getElem? (i := 16) rfl) rfl) (in_t5 (List.mem_of_getElem? (i := 125) rfl) rfl) (in_t5 (List.mem_of_getElem? (i := 126) rfl) rfl) (in_t5 (List.mem_of_getElem? (i := 127) rfl) rfl) (by decide +kernel) (by decide +kernel) (by decide +kernel) (x_dk dn_126_0_0_ok 15 rfl)) g_sc_ok
theorem mac_128_14 {l : Launch} : e_Mac 20 eft cls elay (eI 128) l 14 (e_S (g_ix 17)) := mac_text (M := 128) (M' := 511) rfl (show x_Cl (xm_b n_128) (xm_y n_128).cls (xm_l n_128) (xm_y n_128).name (xm_c n_128) (xm_s n_128) 14 n_511 2 from xr_callV (q' := n_511) (ix := 137) (n := 1) (in_t5 (List.mem_of_getElem? (i := 171) rfl) rfl) good_w (in_t1 (List.mem_of_getElem? (i := 16) rfl) rfl) (in_t5 (List.mem_of_getElem? (i := 168) rfl) rfl) (in_t5 (List.mem_of_getElem? (i := 169) rfl) rfl) (in_t5 (List.mem_of_getElem? (i := 170) rfl) rfl) (by decide +kernel) (by decide +kernel) (by decide +kernel) (x_dk dn_128_0_0_ok 9 rfl)) g_ix_ok
theorem mac_328_66 {l : Launch} : e_Mac 20 eft cls elay (eI 328) l 66 (e_S (g_sl 69)) := mac_text (M := 328) (M' := 501) rfl (show x_Cl (xm_b n_328) (xm_y n_328).cls (xm_l n_328) (xm_y n_328).name (xm_c n_328) (xm_s n_328) 66 n_501 1 from xr_callV (q' := n_501) (ix := 517) (n := 0) (in_t5 (List.mem_of_getElem? (i := 118) rfl) rfl) good_w (in_t1 (List.mem_of_getElem? (i := 16) rfl) rfl) (in_t11 (List.mem_of_getElem? (i := 231) rfl) rfl) (in_t5 (List.mem_of_getElem? (i := 116) rfl) rfl) (in_t5 (List.mem_of_getElem? (i := 117) rfl) rfl) (by decide +kernel) (by decide +kernel) (by decide +kernel) (x_dk dn_328_0_1_ok 10 rfl)) g_sl_ok
theorem mac_328_82 {l : Launch} : e_Mac 20 eft cls elay (eI 328) l 82 (e_S (g_sc 85)) := mac_text (M := 328) (M' := 506) rfl (show x_Cl (xm_b n_328) (xm_y n_328).cls (xm_l n_328) (xm_y n_328).name (xm_c n_328) (xm_s n_328) 82 n_506 2 from xr_callV (q' := n_506) (ix := 522) (n := 1) (in_t5 (List.mem_of_getElem? (i := 128) rfl) rfl) good_w (in_t1 (List.mem_of_getElem? (i := 16) rfl) rfl) (in_t11 (List.mem_of_getElem? (i := 232) rfl) rfl) (in_t5 (List.mem_of_getElem? (i := 126) rfl) rfl) (in_t5 (List.mem_of_getElem? (i := 127) rfl) rfl) (by decide +kernel) (by decide +kernel) (by decide +kernel) (x_dk dn_328_0_1_ok 18 rfl)) g_sc_ok
theorem mac_328_97 {l : Launch} : e_Mac 20 eft cls elay (eI 328) l 97 (e_S (g_sc 100)) := mac_text (M := 328) (M' := 506) rfl (show x_Cl (xm_b n_328) (xm_y n_328).cls (xm_l n_328) (xm_y n_328).name (xm_c n_328) (xm_s n_328) 97 n_506 2 from xr_callV (q' := n_506) (ix := 522) (n := 1) (in_t5 (List.mem_of_getElem? (i := 128) rfl) rfl) good_w (in_t1 (List.mem_of_getElem? (i := 16) rfl) rfl) (in_t11 (List.mem_of_getElem? (i := 232) rfl) rfl) (in_t5 (List.mem_of_getElem? (i := 126) rfl) rfl) (in_t5 (List.mem_of_getElem? (i := 127) rfl) rfl) (by decide +kernel) (by decide +kernel) (by decide +kernel) (x_dk dn_328_0_2_ok 0 rfl)) g_sc_ok
theorem mac_328_127 {l : Launch} : e_Mac 20 eft cls elay (eI 328) l 127 (e_S (g_sc 130)) := mac_text (M := 328) (M' := 506) rfl (show x_Cl (xm_b n_328) (xm_y n_328).cls (xm_l n_328) (xm_y n_328).name (xm_c n_328) (xm_s n_328) 127 n_506 2 from xr_callV (q' := n_506) (ix := 522) (n := 1) (in_t5 (List.mem_of_getElem? (i := 128) rfl) rfl) good_w (in_t1 (List.mem_of_getElem? (i := 16) rfl) rfl) (in_t11 (List.mem_of_getElem? (i := 232) rfl) rfl) (in_t5 (List.mem_of_getElem? (i := 126) rfl) rfl) (in_t5 (List.mem_of_getElem? (i := 127) rfl) rfl) (by decide +kernel) (by decide +kernel) (by decide +kernel) (x_dk dn_328_0_2_ok 14 rfl)) g_sc_ok
theorem mac_328_163 {l : Launch} : e_Mac 20 eft cls elay (eI 328) l 163 (e_S (g_sc 166)) := mac_text (M := 328) (M' := 506) rfl (show x_Cl (xm_b n_328) (xm_y n_328).cls (xm_l n_328) (xm_y n_328).name (xm_c n_328) (xm_s n_328) 163 n_506 2 from xr_callV (q' := n_506) (ix := 522) (n := 1) (in_t5 (List.mem_of_getElem? (i := 128) rfl) rfl) good_w (in_t1 (List.mem_of_getElem? (i := 16) rfl) rfl) (in_t11 (List.mem_of_getElem? (i := 232) rfl) rfl) (in_t5 (List.mem_of_getElem? (i := 126) rfl) rfl) (in_t5 (List.mem_of_getElem? (i := 127) rfl) rfl) (by decide +kernel) (by decide +kernel) (by decide +kernel) (x_dk dn_328_0_3_ok 7 rfl)) g_sc_ok
theorem e_EOR.of {fd : Nat} {ft : Nat → Nat → Nat} {cl : List vw_C} {lay : List eY} {I : Nat → xM} {q : xM} {l : Launch} {pc : Nat} {en : eE} (h : e_EOq ft cl lay I q pc en) : e_EOR fd ft cl lay I q l pc en := by
  obtain ⟨k, f, a, b⟩ := en
  match k, h with
  | 0, h => exact Or.inl ⟨h.1, h.2.1⟩
  | 1, h => exact h
  | 2, h => exact h
  | _ + 3, _ => trivial
theorem e_orb {fd : Nat} {ft : Nat → Nat → Nat} {cl : List vw_C} {lay : List eY} {I : Nat → xM} {q : xM} {l : Launch} {pc k : Nat} {f : eS → Option eS} {b : eE} (h1 : (e_Snd ft cl lay (xm_b q) (xm_y q).cls (xm_l q) (xm_y q).name (xm_c q) (xm_s q) k f ∧ e_NI lay f) ∨ e_Mac fd ft cl lay q l k f) (h2 : e_EOR fd ft cl lay I q l pc b) : e_EOR fd ft cl lay I q l pc (bif Nat.beq pc k then (0, f, 0, 0) else b) := by
  cases hb : Nat.beq pc k with
  | true =>
    have e := Nat.eq_of_beq_eq_true hb
    subst e
    exact h1
  | false => exact h2
theorem e_oqb {ft : Nat → Nat → Nat} {cl : List vw_C} {lay : List eY} {I : Nat → xM} {q : xM} {pc k : Nat} {f : eS → Option eS} {b : eE} (h1 : e_Snd ft cl lay (xm_b q) (xm_y q).cls (xm_l q) (xm_y q).name (xm_c q) (xm_s q) k f ∧ (e_NI lay f ∧ e_IN ft lay f)) (h2 : e_EOq ft cl lay I q pc b) : e_EOq ft cl lay I q pc (bif Nat.beq pc k then (0, f, 0, 0) else b) := by
  cases hb : Nat.beq pc k with
  | true =>
    have e := Nat.eq_of_beq_eq_true hb
    subst e
    exact h1
  | false => exact h2
theorem te_126m_R {l : Launch} (pc : Nat) : e_EOR 20 eft cls elay eI n_126 l pc (te_126m pc) := (e_orb (Or.inl ⟨er_ldcK (x_dk dn_126_0_0_ok 10 rfl), ni_push⟩) (e_orb (Or.inr mac_126_17) (e_orb (Or.inl ⟨er_ldcK (x_dk dn_126_0_0_ok 13 rfl), ni_push⟩) (e_orb (Or.inr mac_126_27) (e_EOR.of (te_126_ok pc))))))
theorem te_127m_R {l : Launch} (pc : Nat) : e_EOR 20 eft cls elay eI n_127 l pc (te_127m pc) := (e_orb (Or.inl ⟨er_ml (ix := 122) (in_t5 (List.mem_of_getElem? (i := 99) rfl) rfl) (in_t5 (List.mem_of_getElem? (i := 100) rfl) rfl) (in_t1 (List.mem_of_getElem? (i := 15) rfl) rfl) (in_t5 (List.mem_of_getElem? (i := 101) rfl) rfl) (x_dk dn_127_0_1_ok 0 rfl), ni_S⟩) (e_EOR.of (te_127_ok pc)))
theorem te_128m_R {l : Launch} (pc : Nat) : e_EOR 20 eft cls elay eI n_128 l pc (te_128m pc) := (e_orb (Or.inl ⟨er_ldcG (x_dk dn_128_0_0_ok 6 rfl), ni_push⟩) (e_orb (Or.inr mac_128_14) (e_EOR.of (te_128_ok pc))))
theorem te_328m_R {l : Launch} (pc : Nat) : e_EOR 20 eft cls elay eI n_328 l pc (te_328m pc) := (e_orb (Or.inl ⟨er_ldcM (x_dk dn_328_0_1_ok 9 rfl), ni_push⟩) (e_orb (Or.inr mac_328_66) (e_orb (Or.inl ⟨er_ldcM (x_dk dn_328_0_1_ok 14 rfl), ni_push⟩) (e_orb (Or.inr mac_328_82) (e_orb (Or.inl ⟨er_ldcM (x_dk dn_328_0_1_ok 21 rfl), ni_push⟩) (e_orb (Or.inr mac_328_97) (e_orb (Or.inl ⟨er_ldcM (x_dk dn_328_0_2_ok 10 rfl), ni_push⟩) (e_orb (Or.inr mac_328_127) (e_orb (Or.inl ⟨er_ldcM (x_dk dn_328_0_3_ok 5 rfl), ni_push⟩) (e_orb (Or.inr mac_328_163) (e_EOR.of (te_328_ok pc))))))))))))
theorem te_249m_ok (pc : Nat) : e_EOq eft cls elay eI n_249 pc (te_249m pc) := (e_oqb ⟨er_sines (ix := 407) (in_t4 (List.mem_of_getElem? (i := 32) rfl) rfl) (x_dk dn_249_0_0_ok 7 rfl), nx_push (Or.inr ⟨by decide, by decide⟩)⟩ (e_oqb ⟨er_sn (x_dk dn_249_0_0_ok 9 rfl), nx_S bS_sn⟩ (e_oqb ⟨er_sines (ix := 407) (in_t4 (List.mem_of_getElem? (i := 32) rfl) rfl) (x_dk dn_249_0_0_ok 14 rfl), nx_push (Or.inr ⟨by decide, by decide⟩)⟩ (e_oqb ⟨er_sn (x_dk dn_249_0_0_ok 18 rfl), nx_S bS_sn⟩ (e_oqb ⟨er_sines (ix := 407) (in_t4 (List.mem_of_getElem? (i := 32) rfl) rfl) (x_dk dn_249_0_0_ok 23 rfl), nx_push (Or.inr ⟨by decide, by decide⟩)⟩ (e_oqb ⟨er_sn (x_dk dn_249_0_1_ok 2 rfl), nx_S bS_sn⟩ (e_oqb ⟨er_sines (ix := 407) (in_t4 (List.mem_of_getElem? (i := 32) rfl) rfl) (x_dk dn_249_0_1_ok 5 rfl), nx_push (Or.inr ⟨by decide, by decide⟩)⟩ (e_oqb ⟨er_sn (x_dk dn_249_0_1_ok 9 rfl), nx_S bS_sn⟩ (te_249_ok pc)))))))))
theorem code1_tab : e_Tab 1 eft cls elay eI code1 := by
  refine ⟨by decide, fun M pc => ?_, e_tab0.2.2.1, e_tab0.2.2.2⟩
  unfold code1
  cases hb : Nat.beq M 249 with
  | true =>
    have e := Nat.eq_of_beq_eq_true hb
    subst e
    exact te_249m_ok pc
  | false => exact e_tr_ok M pc
end
end
-- part 49k
section
noncomputable section
/-! the model: countJoints, over the table without macros, and its macro -/
/-- where a method ends -/
def e_rtP (N : Nat) (g : Nat → eE) : Prop := ∀ pc f k b, g pc = (1, f, k, b) → pc = N ∧ k = 0
theorem e_rtP.T {N k : Nat} {a b : Nat → eE} (ha : e_rtP N a) (hb : e_rtP N b) : e_rtP N (e_T k a b) := fun pc f k' b' h => by
  unfold e_T at h
  cases hk : Nat.ble pc k with
  | true => rw [hk] at h; exact ha pc f k' b' h
  | false => rw [hk] at h; exact hb pc f k' b' h
theorem e_rtP.L0 {N k x y : Nat} {f : eS → Option eS} : e_rtP N (e_L k (0, f, x, y)) := fun pc f' k' b' h => by
  unfold e_L at h
  cases hk : Nat.beq pc k with
  | true => rw [hk] at h; cases h
  | false => rw [hk] at h; cases h
theorem e_rtP.L2 {N k x y : Nat} {f : eS → Option eS} : e_rtP N (e_L k (2, f, x, y)) := fun pc f' k' b' h => by
  unfold e_L at h
  cases hk : Nat.beq pc k with
  | true => rw [hk] at h; cases h
  | false => rw [hk] at h; cases h
theorem e_rtP.L1 {N y : Nat} {f : eS → Option eS} : e_rtP N (e_L N (1, f, 0, y)) := fun pc f' k' b' h => by
  unfold e_L at h
  cases hk : Nat.beq pc N with
  | true => rw [hk] at h; cases h; exact ⟨Nat.eq_of_beq_eq_true hk, rfl⟩
  | false => rw [hk] at h; cases h
theorem b403_ret : e_rtP 185 (code1 403) := show e_rtP 185 te_403 from (e_rtP.T (e_rtP.T (show e_rtP 185 te_403_0 from (e_rtP.T (e_rtP.T (e_rtP.T (e_rtP.T e_rtP.L0 (e_rtP.T e_rtP.L0 e_rtP.L0)) (e_rtP.T e_rtP.L0 (e_rtP.T e_rtP.L0 e_rtP.L0))) (e_rtP.T (e_rtP.T e_rtP.L0 (e_rtP.T e_rtP.L0 e_rtP.L0)) (e_rtP.T (e_rtP.T e_rtP.L0 e_rtP.L0) (e_rtP.T e_rtP.L0 e_rtP.L0)))) (e_rtP.T (e_rtP.T (e_rtP.T e_rtP.L0 (e_rtP.T e_rtP.L0 e_rtP.L0)) (e_rtP.T (e_rtP.T e_rtP.L0 e_rtP.L0) (e_rtP.T e_rtP.L0 e_rtP.L0))) (e_rtP.T (e_rtP.T e_rtP.L0 (e_rtP.T e_rtP.L0 e_rtP.L0)) (e_rtP.T (e_rtP.T e_rtP.L2 e_rtP.L0) (e_rtP.T e_rtP.L0 e_rtP.L0)))))) (show e_rtP 185 te_403_27 from (e_rtP.T (e_rtP.T (e_rtP.T (e_rtP.T e_rtP.L0 (e_rtP.T e_rtP.L0 e_rtP.L0)) (e_rtP.T e_rtP.L0 (e_rtP.T e_rtP.L0 e_rtP.L0))) (e_rtP.T (e_rtP.T e_rtP.L0 (e_rtP.T e_rtP.L0 e_rtP.L0)) (e_rtP.T (e_rtP.T e_rtP.L0 e_rtP.L0) (e_rtP.T e_rtP.L0 e_rtP.L0)))) (e_rtP.T (e_rtP.T (e_rtP.T e_rtP.L0 (e_rtP.T e_rtP.L0 e_rtP.L0)) (e_rtP.T (e_rtP.T e_rtP.L0 e_rtP.L0) (e_rtP.T e_rtP.L0 e_rtP.L0))) (e_rtP.T (e_rtP.T e_rtP.L0 (e_rtP.T e_rtP.L0 e_rtP.L0)) (e_rtP.T (e_rtP.T e_rtP.L0 e_rtP.L0) (e_rtP.T e_rtP.L2 e_rtP.L0))))))) (e_rtP.T (show e_rtP 185 te_403_54 from (e_rtP.T (e_rtP.T (e_rtP.T (e_rtP.T e_rtP.L0 (e_rtP.T e_rtP.L0 e_rtP.L0)) (e_rtP.T e_rtP.L0 (e_rtP.T e_rtP.L0 e_rtP.L0))) (e_rtP.T (e_rtP.T e_rtP.L0 (e_rtP.T e_rtP.L0 e_rtP.L0)) (e_rtP.T (e_rtP.T e_rtP.L0 e_rtP.L0) (e_rtP.T e_rtP.L0 e_rtP.L0)))) (e_rtP.T (e_rtP.T (e_rtP.T e_rtP.L2 (e_rtP.T e_rtP.L0 e_rtP.L0)) (e_rtP.T (e_rtP.T e_rtP.L0 e_rtP.L0) (e_rtP.T e_rtP.L0 e_rtP.L0))) (e_rtP.T (e_rtP.T e_rtP.L0 (e_rtP.T e_rtP.L0 e_rtP.L0)) (e_rtP.T (e_rtP.T e_rtP.L0 e_rtP.L2) (e_rtP.T e_rtP.L0 e_rtP.L0)))))) (show e_rtP 185 te_403_81 from (e_rtP.T (e_rtP.T (e_rtP.T (e_rtP.T e_rtP.L0 (e_rtP.T e_rtP.L0 e_rtP.L0)) (e_rtP.T e_rtP.L0 (e_rtP.T e_rtP.L0 e_rtP.L0))) (e_rtP.T (e_rtP.T e_rtP.L0 (e_rtP.T e_rtP.L0 e_rtP.L0)) (e_rtP.T (e_rtP.T e_rtP.L0 e_rtP.L0) (e_rtP.T e_rtP.L0 e_rtP.L0)))) (e_rtP.T (e_rtP.T (e_rtP.T e_rtP.L0 (e_rtP.T e_rtP.L2 e_rtP.L0)) (e_rtP.T (e_rtP.T e_rtP.L0 e_rtP.L0) (e_rtP.T e_rtP.L0 e_rtP.L0))) (e_rtP.T (e_rtP.T e_rtP.L0 (e_rtP.T e_rtP.L2 e_rtP.L0)) (e_rtP.T (e_rtP.T e_rtP.L0 e_rtP.L0) (e_rtP.T e_rtP.L0 e_rtP.L1))))))))
theorem e_Good.two {ft : Nat → Nat → Nat} {cl : List vw_C} {lay : List eY} {ad : List Nat} {ce sl nL : Nat} {p : Program} {l : Launch} {e : Env} {R : Room} {s : State} {m : MethodId} {args : Array Value} {below : List Frame} {meth : Method} {c : Code} {D : va_G} {A : Nat → Prop} {H0 : Heap} {Q : State → Prop} {pc : Nat} {l' : eL} {st : List eV} {w : eW} {a b : eV} (h0 : e_find l' 0 = some a) (h1 : e_find l' 1 = some b) (h : e_Good ft cl lay ad ce sl nL p l e R s m args below meth c D A H0 Q (pc, [(0, a), (1, b)], st, w)) : e_Good ft cl lay ad ce sl nL p l e R s m args below meth c D A H0 Q (pc, l', st, w) := fun ls stk H locs hI => by
  obtain ⟨lv, ws, tys, k1, k2, k3⟩ := hI
  obtain ⟨i0, v0, e0, r0⟩ := e_find_ok k2 h0
  obtain ⟨i1, v1, e1, r1⟩ := e_find_ok k2 h1
  refine h ls stk H locs ⟨[(0, v0), (1, v1)], ws, tys, ⟨k1.1, k1.2.1, fun q hq => ?_⟩, ⟨⟨rfl, r0⟩, ⟨rfl, r1⟩, trivial⟩, k3⟩
  rcases List.mem_cons.mp hq with rfl | hq
  · exact k1.2.2 _ (List.mem_of_getElem? e0)
  · rcases List.mem_cons.mp hq with rfl | hq
    · exact k1.2.2 _ (List.mem_of_getElem? e1)
    · exact absurd hq List.not_mem_nil
theorem kn1.fr80 {w v : eW} (h : kn1 (w 275 6)) (f : e_fr kC80 w v) : kn1 (v 275 6) := by
  rw [f 275 6 (by unfold kC80; omega)]
  exact h
theorem e_Has.c80 {w v : eW} (h : e_Has mTy w) (f : e_fr kC80 w v) : e_Has mTy v := e_Has.fr (fun c k q => by unfold kC80 at q; rw [q]; rfl) f h
theorem b_266 {d : Nat} {w : eW} {v lo hi : Int} : e_Ok 1 elay code1 eI d 266 (0, [(0, (4, v)), (2, (4, lo)), (4, (4, hi))], [], w) (fun r w' => ∃ z : Int, r = [(0, z)] ∧ w = w' ∧ ((z = 1 ∧ lo ≤ v ∧ v ≤ hi) ∨ (z = 0 ∧ (v < lo ∨ hi < v)))) := by
  refine e_Ok.run (t' := (2, [(0, (4, v)), (2, (4, lo)), (4, (4, hi))], [(4, lo), (4, v)], w)) 2 rfl ?_
  refine e_Ok.lcmp rfl (fun z1 z1a z1b z1c => ?_)
  refine e_Ok.if1 rfl (fun h2 => ?_) (fun h2 => ?_)
  · replace h2 : (z1 : Int) < 0 := h2
    refine e_Ok.run (t' := (18, [(0, (4, v)), (2, (4, lo)), (4, (4, hi))], [(0, 0)], w)) 1 rfl ?_
    refine e_Ok.rets rfl rfl ?_
    exact ⟨_, rfl, rfl, Or.inr ⟨rfl, by omega⟩⟩
  · replace h2 : (z1 : Int) ≥ 0 := by have q : ¬ ((z1 : Int) < 0) := h2; omega
    refine e_Ok.run (t' := (9, [(0, (4, v)), (2, (4, lo)), (4, (4, hi))], [(4, hi), (4, v)], w)) 2 rfl ?_
    refine e_Ok.lcmp rfl (fun z3 z3a z3b z3c => ?_)
    refine e_Ok.if1 rfl (fun h4 => ?_) (fun h4 => ?_)
    · replace h4 : (z3 : Int) > 0 := h4
      refine e_Ok.run (t' := (18, [(0, (4, v)), (2, (4, lo)), (4, (4, hi))], [(0, 0)], w)) 1 rfl ?_
      refine e_Ok.rets rfl rfl ?_
      exact ⟨_, rfl, rfl, Or.inr ⟨rfl, by omega⟩⟩
    · replace h4 : (z3 : Int) ≤ 0 := by have q : ¬ ((z3 : Int) > 0) := h4; omega
      refine e_Ok.run (t' := (18, [(0, (4, v)), (2, (4, lo)), (4, (4, hi))], [(0, 1)], w)) 2 rfl ?_
      refine e_Ok.rets rfl rfl ?_
      exact ⟨_, rfl, rfl, Or.inl ⟨rfl, by omega, by omega⟩⟩
theorem b_268 {d : Nat} {w : eW} {a : Int} (h : 0 ≤ a ∧ a ≤ 100) : e_Ok 1 elay code1 eI d 268 (0, [(0, (0, a))], [], w) (fun r w' => r = [(0, 36 * a + 16)] ∧ w = w') := by
  refine e_Ok.run (t' := (5, [(0, (0, a))], [(0, a), (0, 36), (0, 16)], w)) 3 rfl ?_
  refine e_Ok.mul (z := 36 * a) rfl (by omega) (by omega) ?_
  refine e_Ok.add (z := 36 * a + 16) rfl (by omega) (by omega) ?_
  refine e_Ok.rets rfl rfl ?_
  exact ⟨rfl, rfl⟩
theorem g_389z {G : eS → Prop} {l : eL} (hS : e_GS code1 389 G) {w : eW} {x y : Int} (gx : 0 ≤ x ∧ x ≤ 3) (h7 : w 275 7 = 280) (hz : e_kn w 280 0 3) (ha : kn1 (w 275 6)) (hL0 : e_find l 0 = some (1, 275)) (hL1 : e_find l 1 = some (0, x)) (hL2 : e_find l 2 = some (0, y)) (hK : ∀ u1, e_fr kC80 w u1 → e_kn u1 280 0 3 → G (25, l, [], u1)) : G (0, l, [], w) := by
  have hn := hz x gx.1 gx.2
  unfold kn1 at ha
  refine e_GS.load hS hL0 rfl rfl ?_
  refine e_GS.getr hS (z := 280) rfl rfl rfl rfl h7 (by omega) ?_
  refine e_GS.load hS hL1 rfl rfl ?_
  refine e_GS.run hS (t' := (6, l, [(0, x), (1, 280), (0, x), (1, 280)], w)) 1 rfl ?_
  refine e_GS.ald hS (z := w 280 x) rfl rfl rfl (by omega) rfl (by omega) ?_
  refine e_GS.load hS hL2 rfl rfl ?_
  refine e_GS.if1 hS rfl (fun h1 => ?_) (fun h1 => ?_)
  · replace h1 : (y : Int) = 0 := h1
    refine e_GS.run hS (t' := (23, l, [(0, 0), (0, w 280 x), (0, x), (1, 280)], w)) 1 rfl ?_
    refine e_GS.add hS (z := w 280 x) rfl (by omega) (by omega) ?_
    refine e_GS.ast hS rfl rfl rfl rfl (by omega) ?_
    generalize hw2 : e_up w 280 x (w 280 x) = w2
    have f3 : e_fr kC80 w w2 := e_fr.up (e_fr.refl w) hw2 (by unfold kC80; omega)
    exact hK _ f3 (e_kn.upd hz hw2 (by omega))
  · replace h1 : (y : Int) ≠ 0 := by have q : ¬ ((y : Int) = 0) := h1; omega
    refine e_GS.load hS hL0 rfl rfl ?_
    refine e_GS.getf hS (z := w 275 6) rfl rfl rfl rfl rfl (by omega) ?_
    refine e_GS.if1 hS rfl (fun h4 => ?_) (fun h4 => ?_)
    · replace h4 : (w 275 6 : Int) ≠ 0 := h4
      refine e_GS.run hS (t' := (23, l, [(0, 0), (0, w 280 x), (0, x), (1, 280)], w)) 1 rfl ?_
      refine e_GS.add hS (z := w 280 x) rfl (by omega) (by omega) ?_
      refine e_GS.ast hS rfl rfl rfl rfl (by omega) ?_
      generalize hw5 : e_up w 280 x (w 280 x) = w5
      have f6 : e_fr kC80 w w5 := e_fr.up (e_fr.refl w) hw5 (by unfold kC80; omega)
      exact hK _ f6 (e_kn.upd hz hw5 (by omega))
    · replace h4 : (w 275 6 : Int) = 0 := by have q : ¬ ((w 275 6 : Int) ≠ 0) := h4; omega
      refine e_GS.run hS (t' := (23, l, [(0, 1), (0, w 280 x), (0, x), (1, 280)], w)) 2 rfl ?_
      refine e_GS.any hS rfl (eF_add_any _ _) (fun z7 z7a z7b => ?_)
      refine e_GS.ast hS rfl rfl rfl rfl (by omega) ?_
      generalize hw8 : e_up w 280 x z7 = w8
      have f9 : e_fr kC80 w w8 := e_fr.up (e_fr.refl w) hw8 (by unfold kC80; omega)
      exact hK _ f9 (e_kn.upd hz hw8 (by omega))
theorem b_389 {d : Nat} {w : eW} (hT : e_Has mTy w) {x y : Int} (hx : 0 ≤ x ∧ x ≤ 3) (hz : e_kn w 280 0 3) (h6 : kn1 (w 275 6)) : e_Ok 1 elay code1 eI d 389 (0, [(0, (1, 275)), (1, (0, x)), (2, (0, y))], [], w) (fun r w' => r = [] ∧ e_fr kC80 w w' ∧ e_Has mTy w' ∧ e_kn w' 280 0 3) := by
  refine g_389z (G := fun t => e_Ok 1 elay code1 eI d 389 t _) (fun t t' f a b hc hf h => e_Ok.step hc hf h) hx (e_Has.eq hT rfl) hz h6 rfl rfl rfl (fun u1 f1 z1 => ?_)
  exact e_Ok.rets rfl rfl ⟨rfl, f1, e_Has.c80 hT f1, z1⟩
set_option maxHeartbeats 4000000 in
theorem b_403 {d : Nat} (hd : 4 ≤ d) {w : eW} (hT : e_Has mTy w) {y : Int} (hk : e_kn w 346 0 23) (hz : e_kn w 280 0 3) (h6 : kn1 (w 275 6)) : e_Ok 1 elay code1 eI d 403 (0, [(0, (1, 275)), (1, (0, y))], [], w) (fun r w' => r = [] ∧ e_fr kC80 w w') := by
  obtain ⟨d, rfl⟩ : ∃ e, d = e + 1 := ⟨d - 1, by omega⟩
  refine e_Ok.run (t' := (2, [(2, (0, 0)), (0, (1, 275)), (1, (0, y))], [], w)) 2 rfl ?_
  have hL1 : ∀ (nn : Nat) (y2 : Int) (v1 : eW), e_fr kC80 w v1 ∧ e_Has mTy v1 ∧ (0 ≤ y2 ∧ y2 ≤ 4) ∧ e_kn v1 280 0 3 → 5 - y2 < nn → e_Ok 1 elay code1 eI (d + 1) 403 (2, [(0, (1, 275)), (1, (0, y)), (2, (0, y2))], [], v1) (fun r w' => r = [] ∧ e_fr kC80 w w') := by
    intro nn
    induction nn with
    | zero => intro y2 v1 hj hm; obtain ⟨j3, j4, j5, j6⟩ := hj; exfalso; omega
    | succ nn ih2 =>
      intro y2 v1 hj hm
      obtain ⟨j3, j4, j5, j6⟩ := hj
      refine e_Ok.run (t' := (4, [(0, (1, 275)), (1, (0, y)), (2, (0, y2))], [(1, 275), (0, y2)], v1)) 2 rfl ?_
      have h7 := (e_Has.get hT (c := 275) (k := 10) (lo := 0) (hi := 4) rfl (by decide))
      refine e_Ok.getf (z := w 275 10) rfl rfl rfl rfl ((j3 275 10 (by unfold kC80; omega)).trans rfl) (by omega) ?_
      refine e_Ok.if2 rfl (fun h8 => ?_) (fun h8 => ?_)
      · replace h8 : (y2 : Int) ≥ w 275 10 := h8
        refine e_Ok.rets rfl rfl ?_
        exact ⟨rfl, j3⟩
      · replace h8 : (y2 : Int) < w 275 10 := by have q : ¬ ((y2 : Int) ≥ w 275 10) := h8; omega
        refine e_Ok.run (t' := (12, [(3, (0, 0)), (0, (1, 275)), (1, (0, y)), (2, (0, y2))], [], v1)) 2 rfl ?_
        have hL9 : ∀ (nn : Nat) (y3 : Int) (v2 : eW), e_fr kC80 w v2 ∧ e_Has mTy v2 ∧ (0 ≤ y3 ∧ y3 ≤ 6) ∧ e_kn v2 280 0 3 → 7 - y3 < nn → e_Ok 1 elay code1 eI (d + 1) 403 (12, [(0, (1, 275)), (1, (0, y)), (2, (0, y2)), (3, (0, y3))], [], v2) (fun r w' => r = [] ∧ e_fr kC80 w w') := by
          intro nn
          induction nn with
          | zero => intro y3 v2 hj hm; obtain ⟨j11, j12, j13, j14⟩ := hj; exfalso; omega
          | succ nn ih10 =>
            intro y3 v2 hj hm
            obtain ⟨j11, j12, j13, j14⟩ := hj
            refine e_Ok.run (t' := (14, [(0, (1, 275)), (1, (0, y)), (2, (0, y2)), (3, (0, y3))], [(1, 275), (0, y3)], v2)) 2 rfl ?_
            refine e_Ok.getr (z := 286) rfl rfl rfl rfl ((j11 275 15 (by unfold kC80; omega)).trans (e_Has.eq hT rfl)) (by omega) ?_
            refine e_Ok.run (t' := (18, [(0, (1, 275)), (1, (0, y)), (2, (0, y2)), (3, (0, y3))], [(0, y2), (1, 286), (0, y3)], v2)) 1 rfl ?_
            have h15 := (e_Has.get hT (c := 286) (k := y2) (lo := 0) (hi := 6) rfl (by decide))
            refine e_Ok.ald (z := w 286 y2) rfl rfl rfl (by omega) ((j11 286 y2 (by unfold kC80; omega)).trans rfl) (by omega) ?_
            refine e_Ok.if2 rfl (fun h16 => ?_) (fun h16 => ?_)
            · replace h16 : (y3 : Int) ≥ w 286 y2 := h16
              refine e_Ok.inc (z := y2 + 1) rfl rfl (by omega) (by omega) ?_
              show e_Ok 1 elay code1 eI (d + 1) 403 (182, [(2, (0, y2 + 1)), (0, (1, 275)), (1, (0, y)), (3, (0, y3))], [], v2) _
              refine e_Ok.run (t' := (2, [(2, (0, y2 + 1)), (0, (1, 275)), (1, (0, y)), (3, (0, y3))], [], v2)) 1 rfl ?_
              refine e_Ok.sub c1lk (e_sub_of rfl ?_) (ih2 (y2 + 1) v2 ⟨j11, j12, by omega, j14⟩ (by omega))
              exact ⟨rfl, rfl, rfl, trivial⟩
            · replace h16 : (y3 : Int) < w 286 y2 := by have q : ¬ ((y3 : Int) ≥ w 286 y2) := h16; omega
              refine e_Ok.run (t' := (25, [(0, (1, 275)), (1, (0, y)), (2, (0, y2)), (3, (0, y3))], [(0, y2), (0, 6)], v2)) 2 rfl ?_
              refine e_Ok.mul (z := 6 * y2) rfl (by omega) (by omega) ?_
              refine e_Ok.run (t' := (27, [(0, (1, 275)), (1, (0, y)), (2, (0, y2)), (3, (0, y3))], [(0, y3), (0, 6 * y2)], v2)) 1 rfl ?_
              refine e_Ok.add (z := 6 * y2 + y3) rfl (by omega) (by omega) ?_
              refine e_Ok.run (t' := (31, [(4, (0, 6 * y2 + y3)), (0, (1, 275)), (1, (0, y)), (2, (0, y2)), (3, (0, y3))], [(1, 275)], v2)) 2 rfl ?_
              refine e_Ok.getr (z := 276) rfl rfl rfl rfl ((j11 275 0 (by unfold kC80; omega)).trans (e_Has.eq hT rfl)) (by omega) ?_
              refine e_Ok.run (t' := (35, [(4, (0, 6 * y2 + y3)), (0, (1, 275)), (1, (0, y)), (2, (0, y2)), (3, (0, y3))], [(0, y2), (1, 276)], v2)) 1 rfl ?_
              refine e_Ok.callS rfl (by omega) rfl rfl (b_268 (by omega)) (fun r17 w18 h19 => ?_)
              obtain ⟨rfl, rfl⟩ := h19
              show e_Ok 1 elay code1 eI (d + 1) 403 (38, [(4, (0, 6 * y2 + y3)), (0, (1, 275)), (1, (0, y)), (2, (0, y2)), (3, (0, y3))], [(0, 36 * y2 + 16), (1, 276)], v2) _
              refine e_Ok.run (t' := (40, [(4, (0, 6 * y2 + y3)), (0, (1, 275)), (1, (0, y)), (2, (0, y2)), (3, (0, y3))], [(0, 22), (0, 36 * y2 + 16), (1, 276)], v2)) 1 rfl ?_
              refine e_Ok.add (z := 36 * y2 + 38) rfl (by omega) (by omega) ?_
              refine e_Ok.run (t' := (42, [(4, (0, 6 * y2 + y3)), (0, (1, 275)), (1, (0, y)), (2, (0, y2)), (3, (0, y3))], [(0, y3), (0, 36 * y2 + 38), (1, 276)], v2)) 1 rfl ?_
              refine e_Ok.add (z := 36 * y2 + y3 + 38) rfl (by omega) (by omega) ?_
              have h20 := (e_Has.get hT (c := 276) (k := 36 * y2 + y3 + 38) (lo := (-2000)) (hi := 2000) (nR_STEP (a := y2) (j := y3) (by omega) (by omega)) (by decide))
              refine e_Ok.ald (z := w 276 (36 * y2 + y3 + 38)) rfl rfl rfl (by omega) ((j11 276 (36 * y2 + y3 + 38) (by unfold kC80; omega)).trans rfl) (by omega) ?_
              refine e_Ok.run (t' := (49, [(5, (0, w 276 (36 * y2 + y3 + 38))), (4, (0, 6 * y2 + y3)), (0, (1, 275)), (1, (0, y)), (2, (0, y2)), (3, (0, y3))], [(1, 275), (0, w 276 (36 * y2 + y3 + 38))], v2)) 3 rfl ?_
              refine e_Ok.getr (z := 346) rfl rfl rfl rfl ((j11 275 103 (by unfold kC80; omega)).trans (e_Has.eq hT rfl)) (by omega) ?_
              refine e_Ok.run (t' := (54, [(5, (0, w 276 (36 * y2 + y3 + 38))), (4, (0, 6 * y2 + y3)), (0, (1, 275)), (1, (0, y)), (2, (0, y2)), (3, (0, y3))], [(0, 6 * y2 + y3), (1, 346), (0, w 276 (36 * y2 + y3 + 38))], v2)) 1 rfl ?_
              have h21 := (hk (6 * y2 + y3) (by omega) (by omega))
              refine e_Ok.ald (z := w 346 (6 * y2 + y3)) rfl rfl rfl (by omega) ((j11 346 (6 * y2 + y3) (by unfold kC80; omega)).trans rfl) (by omega) ?_
              refine e_Ok.any rfl (eF_sub_any _ _) (fun z22 z22a z22b => ?_)
              refine e_Ok.run (t' := (59, [(6, (0, z22)), (5, (0, w 276 (36 * y2 + y3 + 38))), (4, (0, 6 * y2 + y3)), (0, (1, 275)), (1, (0, y)), (2, (0, y2)), (3, (0, y3))], [(0, y)], v2)) 2 rfl ?_
              refine e_Ok.if1 rfl (fun h23 => ?_) (fun h23 => ?_)
              · replace h23 : (y : Int) = 0 := h23
                refine e_Ok.run (t' := (124, [(7, (0, 0)), (6, (0, z22)), (5, (0, w 276 (36 * y2 + y3 + 38))), (4, (0, 6 * y2 + y3)), (0, (1, 275)), (1, (0, y)), (2, (0, y2)), (3, (0, y3))], [(1, 275), (0, 0), (1, 275)], v2)) 5 rfl ?_
                refine e_Ok.getr (z := 276) rfl rfl rfl rfl ((j11 275 0 (by unfold kC80; omega)).trans (e_Has.eq hT rfl)) (by omega) ?_
                refine e_Ok.run (t' := (128, [(7, (0, 0)), (6, (0, z22)), (5, (0, w 276 (36 * y2 + y3 + 38))), (4, (0, 6 * y2 + y3)), (0, (1, 275)), (1, (0, y)), (2, (0, y2)), (3, (0, y3))], [(0, y2), (1, 276), (0, 0), (1, 275)], v2)) 1 rfl ?_
                refine e_Ok.callS rfl (by omega) rfl rfl (b_268 (by omega)) (fun r24 w25 h26 => ?_)
                obtain ⟨rfl, rfl⟩ := h26
                show e_Ok 1 elay code1 eI (d + 1) 403 (131, [(7, (0, 0)), (6, (0, z22)), (5, (0, w 276 (36 * y2 + y3 + 38))), (4, (0, 6 * y2 + y3)), (0, (1, 275)), (1, (0, y)), (2, (0, y2)), (3, (0, y3))], [(0, 36 * y2 + 16), (1, 276), (0, 0), (1, 275)], v2) _
                refine e_Ok.run (t' := (133, [(7, (0, 0)), (6, (0, z22)), (5, (0, w 276 (36 * y2 + y3 + 38))), (4, (0, 6 * y2 + y3)), (0, (1, 275)), (1, (0, y)), (2, (0, y2)), (3, (0, y3))], [(0, 16), (0, 36 * y2 + 16), (1, 276), (0, 0), (1, 275)], v2)) 1 rfl ?_
                refine e_Ok.add (z := 36 * y2 + 32) rfl (by omega) (by omega) ?_
                refine e_Ok.run (t' := (135, [(7, (0, 0)), (6, (0, z22)), (5, (0, w 276 (36 * y2 + y3 + 38))), (4, (0, 6 * y2 + y3)), (0, (1, 275)), (1, (0, y)), (2, (0, y2)), (3, (0, y3))], [(0, y3), (0, 36 * y2 + 32), (1, 276), (0, 0), (1, 275)], v2)) 1 rfl ?_
                refine e_Ok.add (z := 36 * y2 + y3 + 32) rfl (by omega) (by omega) ?_
                have h27 := (e_Has.get hT (c := 276) (k := 36 * y2 + y3 + 32) (lo := (-100000)) (hi := 100000) (nR_VALUE (a := y2) (j := y3) (by omega) (by omega)) (by decide))
                refine e_Ok.ald (z := w 276 (36 * y2 + y3 + 32)) rfl rfl rfl (by omega) ((j11 276 (36 * y2 + y3 + 32) (by unfold kC80; omega)).trans rfl) (by omega) ?_
                refine e_Ok.run (t' := (139, [(7, (0, 0)), (6, (0, z22)), (5, (0, w 276 (36 * y2 + y3 + 38))), (4, (0, 6 * y2 + y3)), (0, (1, 275)), (1, (0, y)), (2, (0, y2)), (3, (0, y3))], [(1, 275), (4, w 276 (36 * y2 + y3 + 32)), (0, 0), (1, 275)], v2)) 2 rfl ?_
                refine e_Ok.getr (z := 288) rfl rfl rfl rfl ((j11 275 17 (by unfold kC80; omega)).trans (e_Has.eq hT rfl)) (by omega) ?_
                refine e_Ok.run (t' := (144, [(7, (0, 0)), (6, (0, z22)), (5, (0, w 276 (36 * y2 + y3 + 38))), (4, (0, 6 * y2 + y3)), (0, (1, 275)), (1, (0, y)), (2, (0, y2)), (3, (0, y3))], [(0, 6 * y2 + y3), (1, 288), (4, w 276 (36 * y2 + y3 + 32)), (0, 0), (1, 275)], v2)) 1 rfl ?_
                have h28 := (e_Has.get hT (c := 288) (k := 6 * y2 + y3) (lo := (-100000)) (hi := 0) rfl (by decide))
                refine e_Ok.ald (z := w 288 (6 * y2 + y3)) rfl rfl rfl (by omega) ((j11 288 (6 * y2 + y3) (by unfold kC80; omega)).trans rfl) (by omega) ?_
                refine e_Ok.run (t' := (147, [(7, (0, 0)), (6, (0, z22)), (5, (0, w 276 (36 * y2 + y3 + 38))), (4, (0, 6 * y2 + y3)), (0, (1, 275)), (1, (0, y)), (2, (0, y2)), (3, (0, y3))], [(1, 275), (4, w 288 (6 * y2 + y3)), (4, w 276 (36 * y2 + y3 + 32)), (0, 0), (1, 275)], v2)) 2 rfl ?_
                refine e_Ok.getr (z := 289) rfl rfl rfl rfl ((j11 275 18 (by unfold kC80; omega)).trans (e_Has.eq hT rfl)) (by omega) ?_
                refine e_Ok.run (t' := (152, [(7, (0, 0)), (6, (0, z22)), (5, (0, w 276 (36 * y2 + y3 + 38))), (4, (0, 6 * y2 + y3)), (0, (1, 275)), (1, (0, y)), (2, (0, y2)), (3, (0, y3))], [(0, 6 * y2 + y3), (1, 289), (4, w 288 (6 * y2 + y3)), (4, w 276 (36 * y2 + y3 + 32)), (0, 0), (1, 275)], v2)) 1 rfl ?_
                have h29 := (e_Has.get hT (c := 289) (k := 6 * y2 + y3) (lo := 0) (hi := 100000) rfl (by decide))
                refine e_Ok.ald (z := w 289 (6 * y2 + y3)) rfl rfl rfl (by omega) ((j11 289 (6 * y2 + y3) (by unfold kC80; omega)).trans rfl) (by omega) ?_
                refine e_Ok.run (t' := (154, [(7, (0, 0)), (6, (0, z22)), (5, (0, w 276 (36 * y2 + y3 + 38))), (4, (0, 6 * y2 + y3)), (0, (1, 275)), (1, (0, y)), (2, (0, y2)), (3, (0, y3))], [(4, w 289 (6 * y2 + y3)), (4, w 288 (6 * y2 + y3)), (4, w 276 (36 * y2 + y3 + 32)), (0, 0), (1, 275)], v2)) 1 rfl ?_
                refine e_Ok.callS rfl (by omega) rfl rfl (b_266) (fun r30 w31 h32 => ?_)
                obtain ⟨z33, rfl, rfl, q34⟩ := h32
                obtain ⟨rfl, q34⟩ | ⟨rfl, q34⟩ := q34
                · show e_Ok 1 elay code1 eI (d + 1) 403 (157, [(7, (0, 0)), (6, (0, z22)), (5, (0, w 276 (36 * y2 + y3 + 38))), (4, (0, 6 * y2 + y3)), (0, (1, 275)), (1, (0, y)), (2, (0, y2)), (3, (0, y3))], [(0, 1), (0, 0), (1, 275)], v2) _
                  refine e_Ok.if1 rfl (fun h35 => ?_) (fun h35 => ?_)
                  · replace h35 : (1 : Int) = 0 := h35
                    exfalso; omega
                  · replace h35 : (1 : Int) ≠ 0 := by have q : ¬ ((1 : Int) = 0) := h35; omega
                    refine e_Ok.run (t' := (162, [(7, (0, 0)), (6, (0, z22)), (5, (0, w 276 (36 * y2 + y3 + 38))), (4, (0, 6 * y2 + y3)), (0, (1, 275)), (1, (0, y)), (2, (0, y2)), (3, (0, y3))], [(0, 0), (0, 0), (1, 275)], v2)) 1 rfl ?_
                    refine e_Ok.if1 rfl (fun h36 => ?_) (fun h36 => ?_)
                    · replace h36 : (0 : Int) = 0 := h36
                      refine e_Ok.run (t' := (170, [(7, (0, 0)), (6, (0, z22)), (5, (0, w 276 (36 * y2 + y3 + 38))), (4, (0, 6 * y2 + y3)), (0, (1, 275)), (1, (0, y)), (2, (0, y2)), (3, (0, y3))], [(0, 0), (0, 0), (1, 275)], v2)) 1 rfl ?_
                      refine e_Ok.callV rfl (by omega) rfl rfl rfl rfl (b_389 j12 (by omega) j14 (h6.fr80 j11)) (fun r37 w38 h40 => ?_)
                      obtain ⟨rfl, q41, q41T, hz42⟩ := h40
                      have f43 : e_fr kC80 w w38 := e_fr.trans j11 (e_fr.mono q41 (fun c k q => by exact q))
                      show e_Ok 1 elay code1 eI (d + 1) 403 (173, [(7, (0, 0)), (6, (0, z22)), (5, (0, w 276 (36 * y2 + y3 + 38))), (4, (0, 6 * y2 + y3)), (0, (1, 275)), (1, (0, y)), (2, (0, y2)), (3, (0, y3))], [], w38) _
                      refine e_Ok.inc (z := y3 + 1) rfl rfl (by omega) (by omega) ?_
                      show e_Ok 1 elay code1 eI (d + 1) 403 (176, [(3, (0, y3 + 1)), (7, (0, 0)), (6, (0, z22)), (5, (0, w 276 (36 * y2 + y3 + 38))), (4, (0, 6 * y2 + y3)), (0, (1, 275)), (1, (0, y)), (2, (0, y2))], [], w38) _
                      refine e_Ok.run (t' := (12, [(3, (0, y3 + 1)), (7, (0, 0)), (6, (0, z22)), (5, (0, w 276 (36 * y2 + y3 + 38))), (4, (0, 6 * y2 + y3)), (0, (1, 275)), (1, (0, y)), (2, (0, y2))], [], w38)) 1 rfl ?_
                      refine e_Ok.sub c1lk (e_sub_of rfl ?_) (ih10 (y3 + 1) w38 ⟨f43, q41T, by omega, hz42⟩ (by omega))
                      exact ⟨rfl, rfl, rfl, rfl, trivial⟩
                    · replace h36 : (0 : Int) ≠ 0 := by have q : ¬ ((0 : Int) = 0) := h36; omega
                      exfalso; omega
                · show e_Ok 1 elay code1 eI (d + 1) 403 (157, [(7, (0, 0)), (6, (0, z22)), (5, (0, w 276 (36 * y2 + y3 + 38))), (4, (0, 6 * y2 + y3)), (0, (1, 275)), (1, (0, y)), (2, (0, y2)), (3, (0, y3))], [(0, 0), (0, 0), (1, 275)], v2) _
                  refine e_Ok.if1 rfl (fun h44 => ?_) (fun h44 => ?_)
                  · replace h44 : (0 : Int) = 0 := h44
                    refine e_Ok.run (t' := (170, [(7, (0, 0)), (6, (0, z22)), (5, (0, w 276 (36 * y2 + y3 + 38))), (4, (0, 6 * y2 + y3)), (0, (1, 275)), (1, (0, y)), (2, (0, y2)), (3, (0, y3))], [(0, 1), (0, 0), (1, 275)], v2)) 2 rfl ?_
                    refine e_Ok.callV rfl (by omega) rfl rfl rfl rfl (b_389 j12 (by omega) j14 (h6.fr80 j11)) (fun r45 w46 h47 => ?_)
                    obtain ⟨rfl, q48, q48T, hz49⟩ := h47
                    have f50 : e_fr kC80 w w46 := e_fr.trans j11 (e_fr.mono q48 (fun c k q => by exact q))
                    show e_Ok 1 elay code1 eI (d + 1) 403 (173, [(7, (0, 0)), (6, (0, z22)), (5, (0, w 276 (36 * y2 + y3 + 38))), (4, (0, 6 * y2 + y3)), (0, (1, 275)), (1, (0, y)), (2, (0, y2)), (3, (0, y3))], [], w46) _
                    refine e_Ok.inc (z := y3 + 1) rfl rfl (by omega) (by omega) ?_
                    show e_Ok 1 elay code1 eI (d + 1) 403 (176, [(3, (0, y3 + 1)), (7, (0, 0)), (6, (0, z22)), (5, (0, w 276 (36 * y2 + y3 + 38))), (4, (0, 6 * y2 + y3)), (0, (1, 275)), (1, (0, y)), (2, (0, y2))], [], w46) _
                    refine e_Ok.run (t' := (12, [(3, (0, y3 + 1)), (7, (0, 0)), (6, (0, z22)), (5, (0, w 276 (36 * y2 + y3 + 38))), (4, (0, 6 * y2 + y3)), (0, (1, 275)), (1, (0, y)), (2, (0, y2))], [], w46)) 1 rfl ?_
                    refine e_Ok.sub c1lk (e_sub_of rfl ?_) (ih10 (y3 + 1) w46 ⟨f50, q48T, by omega, hz49⟩ (by omega))
                    exact ⟨rfl, rfl, rfl, rfl, trivial⟩
                  · replace h44 : (0 : Int) ≠ 0 := by have q : ¬ ((0 : Int) = 0) := h44; omega
                    exfalso; omega
              · replace h23 : (y : Int) ≠ 0 := by have q : ¬ ((y : Int) = 0) := h23; omega
                refine e_Ok.run (t' := (66, [(6, (0, z22)), (5, (0, w 276 (36 * y2 + y3 + 38))), (4, (0, 6 * y2 + y3)), (0, (1, 275)), (1, (0, y)), (2, (0, y2)), (3, (0, y3))], [(1, 275), (4, w 276 (36 * y2 + y3 + 38))], v2)) 3 rfl ?_
                refine e_Ok.getr (z := 290) rfl rfl rfl rfl ((j11 275 19 (by unfold kC80; omega)).trans (e_Has.eq hT rfl)) (by omega) ?_
                refine e_Ok.run (t' := (71, [(6, (0, z22)), (5, (0, w 276 (36 * y2 + y3 + 38))), (4, (0, 6 * y2 + y3)), (0, (1, 275)), (1, (0, y)), (2, (0, y2)), (3, (0, y3))], [(0, 6 * y2 + y3), (1, 290), (4, w 276 (36 * y2 + y3 + 38))], v2)) 1 rfl ?_
                have h51 := (e_Has.get hT (c := 290) (k := 6 * y2 + y3) (lo := 0) (hi := 2000) rfl (by decide))
                refine e_Ok.ald (z := w 290 (6 * y2 + y3)) rfl rfl rfl (by omega) ((j11 290 (6 * y2 + y3) (by unfold kC80; omega)).trans rfl) (by omega) ?_
                refine e_Ok.neg (z := -w 290 (6 * y2 + y3)) rfl (by omega) (by omega) ?_
                refine e_Ok.run (t' := (75, [(6, (0, z22)), (5, (0, w 276 (36 * y2 + y3 + 38))), (4, (0, 6 * y2 + y3)), (0, (1, 275)), (1, (0, y)), (2, (0, y2)), (3, (0, y3))], [(1, 275), (4, -w 290 (6 * y2 + y3)), (4, w 276 (36 * y2 + y3 + 38))], v2)) 2 rfl ?_
                refine e_Ok.getr (z := 290) rfl rfl rfl rfl ((j11 275 19 (by unfold kC80; omega)).trans (e_Has.eq hT rfl)) (by omega) ?_
                refine e_Ok.run (t' := (80, [(6, (0, z22)), (5, (0, w 276 (36 * y2 + y3 + 38))), (4, (0, 6 * y2 + y3)), (0, (1, 275)), (1, (0, y)), (2, (0, y2)), (3, (0, y3))], [(0, 6 * y2 + y3), (1, 290), (4, -w 290 (6 * y2 + y3)), (4, w 276 (36 * y2 + y3 + 38))], v2)) 1 rfl ?_
                refine e_Ok.ald (z := w 290 (6 * y2 + y3)) rfl rfl rfl (by omega) ((j11 290 (6 * y2 + y3) (by unfold kC80; omega)).trans rfl) (by omega) ?_
                refine e_Ok.run (t' := (82, [(6, (0, z22)), (5, (0, w 276 (36 * y2 + y3 + 38))), (4, (0, 6 * y2 + y3)), (0, (1, 275)), (1, (0, y)), (2, (0, y2)), (3, (0, y3))], [(4, w 290 (6 * y2 + y3)), (4, -w 290 (6 * y2 + y3)), (4, w 276 (36 * y2 + y3 + 38))], v2)) 1 rfl ?_
                refine e_Ok.callS rfl (by omega) rfl rfl (b_266) (fun r52 w53 h54 => ?_)
                obtain ⟨z55, rfl, rfl, q56⟩ := h54
                obtain ⟨rfl, q56⟩ | ⟨rfl, q56⟩ := q56
                · show e_Ok 1 elay code1 eI (d + 1) 403 (85, [(6, (0, z22)), (5, (0, w 276 (36 * y2 + y3 + 38))), (4, (0, 6 * y2 + y3)), (0, (1, 275)), (1, (0, y)), (2, (0, y2)), (3, (0, y3))], [(0, 1)], v2) _
                  refine e_Ok.if1 rfl (fun h57 => ?_) (fun h57 => ?_)
                  · replace h57 : (1 : Int) = 0 := h57
                    exfalso; omega
                  · replace h57 : (1 : Int) ≠ 0 := by have q : ¬ ((1 : Int) = 0) := h57; omega
                    refine e_Ok.run (t' := (92, [(6, (0, z22)), (5, (0, w 276 (36 * y2 + y3 + 38))), (4, (0, 6 * y2 + y3)), (0, (1, 275)), (1, (0, y)), (2, (0, y2)), (3, (0, y3))], [(1, 275), (4, z22)], v2)) 3 rfl ?_
                    refine e_Ok.getr (z := 291) rfl rfl rfl rfl ((j11 275 20 (by unfold kC80; omega)).trans (e_Has.eq hT rfl)) (by omega) ?_
                    refine e_Ok.run (t' := (97, [(6, (0, z22)), (5, (0, w 276 (36 * y2 + y3 + 38))), (4, (0, 6 * y2 + y3)), (0, (1, 275)), (1, (0, y)), (2, (0, y2)), (3, (0, y3))], [(0, 6 * y2 + y3), (1, 291), (4, z22)], v2)) 1 rfl ?_
                    have h58 := (e_Has.get hT (c := 291) (k := 6 * y2 + y3) (lo := 0) (hi := 2000) rfl (by decide))
                    refine e_Ok.ald (z := w 291 (6 * y2 + y3)) rfl rfl rfl (by omega) ((j11 291 (6 * y2 + y3) (by unfold kC80; omega)).trans rfl) (by omega) ?_
                    refine e_Ok.neg (z := -w 291 (6 * y2 + y3)) rfl (by omega) (by omega) ?_
                    refine e_Ok.run (t' := (101, [(6, (0, z22)), (5, (0, w 276 (36 * y2 + y3 + 38))), (4, (0, 6 * y2 + y3)), (0, (1, 275)), (1, (0, y)), (2, (0, y2)), (3, (0, y3))], [(1, 275), (4, -w 291 (6 * y2 + y3)), (4, z22)], v2)) 2 rfl ?_
                    refine e_Ok.getr (z := 291) rfl rfl rfl rfl ((j11 275 20 (by unfold kC80; omega)).trans (e_Has.eq hT rfl)) (by omega) ?_
                    refine e_Ok.run (t' := (106, [(6, (0, z22)), (5, (0, w 276 (36 * y2 + y3 + 38))), (4, (0, 6 * y2 + y3)), (0, (1, 275)), (1, (0, y)), (2, (0, y2)), (3, (0, y3))], [(0, 6 * y2 + y3), (1, 291), (4, -w 291 (6 * y2 + y3)), (4, z22)], v2)) 1 rfl ?_
                    refine e_Ok.ald (z := w 291 (6 * y2 + y3)) rfl rfl rfl (by omega) ((j11 291 (6 * y2 + y3) (by unfold kC80; omega)).trans rfl) (by omega) ?_
                    refine e_Ok.run (t' := (108, [(6, (0, z22)), (5, (0, w 276 (36 * y2 + y3 + 38))), (4, (0, 6 * y2 + y3)), (0, (1, 275)), (1, (0, y)), (2, (0, y2)), (3, (0, y3))], [(4, w 291 (6 * y2 + y3)), (4, -w 291 (6 * y2 + y3)), (4, z22)], v2)) 1 rfl ?_
                    refine e_Ok.callS rfl (by omega) rfl rfl (b_266) (fun r59 w60 h61 => ?_)
                    obtain ⟨z62, rfl, rfl, q63⟩ := h61
                    obtain ⟨rfl, q63⟩ | ⟨rfl, q63⟩ := q63
                    · show e_Ok 1 elay code1 eI (d + 1) 403 (111, [(6, (0, z22)), (5, (0, w 276 (36 * y2 + y3 + 38))), (4, (0, 6 * y2 + y3)), (0, (1, 275)), (1, (0, y)), (2, (0, y2)), (3, (0, y3))], [(0, 1)], v2) _
                      refine e_Ok.if1 rfl (fun h64 => ?_) (fun h64 => ?_)
                      · replace h64 : (1 : Int) ≠ 0 := h64
                        refine e_Ok.run (t' := (124, [(7, (0, 0)), (6, (0, z22)), (5, (0, w 276 (36 * y2 + y3 + 38))), (4, (0, 6 * y2 + y3)), (0, (1, 275)), (1, (0, y)), (2, (0, y2)), (3, (0, y3))], [(1, 275), (0, 0), (1, 275)], v2)) 5 rfl ?_
                        refine e_Ok.getr (z := 276) rfl rfl rfl rfl ((j11 275 0 (by unfold kC80; omega)).trans (e_Has.eq hT rfl)) (by omega) ?_
                        refine e_Ok.run (t' := (128, [(7, (0, 0)), (6, (0, z22)), (5, (0, w 276 (36 * y2 + y3 + 38))), (4, (0, 6 * y2 + y3)), (0, (1, 275)), (1, (0, y)), (2, (0, y2)), (3, (0, y3))], [(0, y2), (1, 276), (0, 0), (1, 275)], v2)) 1 rfl ?_
                        refine e_Ok.callS rfl (by omega) rfl rfl (b_268 (by omega)) (fun r65 w66 h67 => ?_)
                        obtain ⟨rfl, rfl⟩ := h67
                        show e_Ok 1 elay code1 eI (d + 1) 403 (131, [(7, (0, 0)), (6, (0, z22)), (5, (0, w 276 (36 * y2 + y3 + 38))), (4, (0, 6 * y2 + y3)), (0, (1, 275)), (1, (0, y)), (2, (0, y2)), (3, (0, y3))], [(0, 36 * y2 + 16), (1, 276), (0, 0), (1, 275)], v2) _
                        refine e_Ok.run (t' := (133, [(7, (0, 0)), (6, (0, z22)), (5, (0, w 276 (36 * y2 + y3 + 38))), (4, (0, 6 * y2 + y3)), (0, (1, 275)), (1, (0, y)), (2, (0, y2)), (3, (0, y3))], [(0, 16), (0, 36 * y2 + 16), (1, 276), (0, 0), (1, 275)], v2)) 1 rfl ?_
                        refine e_Ok.add (z := 36 * y2 + 32) rfl (by omega) (by omega) ?_
                        refine e_Ok.run (t' := (135, [(7, (0, 0)), (6, (0, z22)), (5, (0, w 276 (36 * y2 + y3 + 38))), (4, (0, 6 * y2 + y3)), (0, (1, 275)), (1, (0, y)), (2, (0, y2)), (3, (0, y3))], [(0, y3), (0, 36 * y2 + 32), (1, 276), (0, 0), (1, 275)], v2)) 1 rfl ?_
                        refine e_Ok.add (z := 36 * y2 + y3 + 32) rfl (by omega) (by omega) ?_
                        have h68 := (e_Has.get hT (c := 276) (k := 36 * y2 + y3 + 32) (lo := (-100000)) (hi := 100000) (nR_VALUE (a := y2) (j := y3) (by omega) (by omega)) (by decide))
                        refine e_Ok.ald (z := w 276 (36 * y2 + y3 + 32)) rfl rfl rfl (by omega) ((j11 276 (36 * y2 + y3 + 32) (by unfold kC80; omega)).trans rfl) (by omega) ?_
                        refine e_Ok.run (t' := (139, [(7, (0, 0)), (6, (0, z22)), (5, (0, w 276 (36 * y2 + y3 + 38))), (4, (0, 6 * y2 + y3)), (0, (1, 275)), (1, (0, y)), (2, (0, y2)), (3, (0, y3))], [(1, 275), (4, w 276 (36 * y2 + y3 + 32)), (0, 0), (1, 275)], v2)) 2 rfl ?_
                        refine e_Ok.getr (z := 288) rfl rfl rfl rfl ((j11 275 17 (by unfold kC80; omega)).trans (e_Has.eq hT rfl)) (by omega) ?_
                        refine e_Ok.run (t' := (144, [(7, (0, 0)), (6, (0, z22)), (5, (0, w 276 (36 * y2 + y3 + 38))), (4, (0, 6 * y2 + y3)), (0, (1, 275)), (1, (0, y)), (2, (0, y2)), (3, (0, y3))], [(0, 6 * y2 + y3), (1, 288), (4, w 276 (36 * y2 + y3 + 32)), (0, 0), (1, 275)], v2)) 1 rfl ?_
                        have h69 := (e_Has.get hT (c := 288) (k := 6 * y2 + y3) (lo := (-100000)) (hi := 0) rfl (by decide))
                        refine e_Ok.ald (z := w 288 (6 * y2 + y3)) rfl rfl rfl (by omega) ((j11 288 (6 * y2 + y3) (by unfold kC80; omega)).trans rfl) (by omega) ?_
                        refine e_Ok.run (t' := (147, [(7, (0, 0)), (6, (0, z22)), (5, (0, w 276 (36 * y2 + y3 + 38))), (4, (0, 6 * y2 + y3)), (0, (1, 275)), (1, (0, y)), (2, (0, y2)), (3, (0, y3))], [(1, 275), (4, w 288 (6 * y2 + y3)), (4, w 276 (36 * y2 + y3 + 32)), (0, 0), (1, 275)], v2)) 2 rfl ?_
                        refine e_Ok.getr (z := 289) rfl rfl rfl rfl ((j11 275 18 (by unfold kC80; omega)).trans (e_Has.eq hT rfl)) (by omega) ?_
                        refine e_Ok.run (t' := (152, [(7, (0, 0)), (6, (0, z22)), (5, (0, w 276 (36 * y2 + y3 + 38))), (4, (0, 6 * y2 + y3)), (0, (1, 275)), (1, (0, y)), (2, (0, y2)), (3, (0, y3))], [(0, 6 * y2 + y3), (1, 289), (4, w 288 (6 * y2 + y3)), (4, w 276 (36 * y2 + y3 + 32)), (0, 0), (1, 275)], v2)) 1 rfl ?_
                        have h70 := (e_Has.get hT (c := 289) (k := 6 * y2 + y3) (lo := 0) (hi := 100000) rfl (by decide))
                        refine e_Ok.ald (z := w 289 (6 * y2 + y3)) rfl rfl rfl (by omega) ((j11 289 (6 * y2 + y3) (by unfold kC80; omega)).trans rfl) (by omega) ?_
                        refine e_Ok.run (t' := (154, [(7, (0, 0)), (6, (0, z22)), (5, (0, w 276 (36 * y2 + y3 + 38))), (4, (0, 6 * y2 + y3)), (0, (1, 275)), (1, (0, y)), (2, (0, y2)), (3, (0, y3))], [(4, w 289 (6 * y2 + y3)), (4, w 288 (6 * y2 + y3)), (4, w 276 (36 * y2 + y3 + 32)), (0, 0), (1, 275)], v2)) 1 rfl ?_
                        refine e_Ok.callS rfl (by omega) rfl rfl (b_266) (fun r71 w72 h73 => ?_)
                        obtain ⟨z74, rfl, rfl, q75⟩ := h73
                        obtain ⟨rfl, q75⟩ | ⟨rfl, q75⟩ := q75
                        · show e_Ok 1 elay code1 eI (d + 1) 403 (157, [(7, (0, 0)), (6, (0, z22)), (5, (0, w 276 (36 * y2 + y3 + 38))), (4, (0, 6 * y2 + y3)), (0, (1, 275)), (1, (0, y)), (2, (0, y2)), (3, (0, y3))], [(0, 1), (0, 0), (1, 275)], v2) _
                          refine e_Ok.if1 rfl (fun h76 => ?_) (fun h76 => ?_)
                          · replace h76 : (1 : Int) = 0 := h76
                            exfalso; omega
                          · replace h76 : (1 : Int) ≠ 0 := by have q : ¬ ((1 : Int) = 0) := h76; omega
                            refine e_Ok.run (t' := (162, [(7, (0, 0)), (6, (0, z22)), (5, (0, w 276 (36 * y2 + y3 + 38))), (4, (0, 6 * y2 + y3)), (0, (1, 275)), (1, (0, y)), (2, (0, y2)), (3, (0, y3))], [(0, 0), (0, 0), (1, 275)], v2)) 1 rfl ?_
                            refine e_Ok.if1 rfl (fun h77 => ?_) (fun h77 => ?_)
                            · replace h77 : (0 : Int) = 0 := h77
                              refine e_Ok.run (t' := (170, [(7, (0, 0)), (6, (0, z22)), (5, (0, w 276 (36 * y2 + y3 + 38))), (4, (0, 6 * y2 + y3)), (0, (1, 275)), (1, (0, y)), (2, (0, y2)), (3, (0, y3))], [(0, 0), (0, 0), (1, 275)], v2)) 1 rfl ?_
                              refine e_Ok.callV rfl (by omega) rfl rfl rfl rfl (b_389 j12 (by omega) j14 (h6.fr80 j11)) (fun r78 w79 h80 => ?_)
                              obtain ⟨rfl, q81, q81T, hz82⟩ := h80
                              have f83 : e_fr kC80 w w79 := e_fr.trans j11 (e_fr.mono q81 (fun c k q => by exact q))
                              show e_Ok 1 elay code1 eI (d + 1) 403 (173, [(7, (0, 0)), (6, (0, z22)), (5, (0, w 276 (36 * y2 + y3 + 38))), (4, (0, 6 * y2 + y3)), (0, (1, 275)), (1, (0, y)), (2, (0, y2)), (3, (0, y3))], [], w79) _
                              refine e_Ok.inc (z := y3 + 1) rfl rfl (by omega) (by omega) ?_
                              show e_Ok 1 elay code1 eI (d + 1) 403 (176, [(3, (0, y3 + 1)), (7, (0, 0)), (6, (0, z22)), (5, (0, w 276 (36 * y2 + y3 + 38))), (4, (0, 6 * y2 + y3)), (0, (1, 275)), (1, (0, y)), (2, (0, y2))], [], w79) _
                              refine e_Ok.run (t' := (12, [(3, (0, y3 + 1)), (7, (0, 0)), (6, (0, z22)), (5, (0, w 276 (36 * y2 + y3 + 38))), (4, (0, 6 * y2 + y3)), (0, (1, 275)), (1, (0, y)), (2, (0, y2))], [], w79)) 1 rfl ?_
                              refine e_Ok.sub c1lk (e_sub_of rfl ?_) (ih10 (y3 + 1) w79 ⟨f83, q81T, by omega, hz82⟩ (by omega))
                              exact ⟨rfl, rfl, rfl, rfl, trivial⟩
                            · replace h77 : (0 : Int) ≠ 0 := by have q : ¬ ((0 : Int) = 0) := h77; omega
                              exfalso; omega
                        · show e_Ok 1 elay code1 eI (d + 1) 403 (157, [(7, (0, 0)), (6, (0, z22)), (5, (0, w 276 (36 * y2 + y3 + 38))), (4, (0, 6 * y2 + y3)), (0, (1, 275)), (1, (0, y)), (2, (0, y2)), (3, (0, y3))], [(0, 0), (0, 0), (1, 275)], v2) _
                          refine e_Ok.if1 rfl (fun h84 => ?_) (fun h84 => ?_)
                          · replace h84 : (0 : Int) = 0 := h84
                            refine e_Ok.run (t' := (170, [(7, (0, 0)), (6, (0, z22)), (5, (0, w 276 (36 * y2 + y3 + 38))), (4, (0, 6 * y2 + y3)), (0, (1, 275)), (1, (0, y)), (2, (0, y2)), (3, (0, y3))], [(0, 1), (0, 0), (1, 275)], v2)) 2 rfl ?_
                            refine e_Ok.callV rfl (by omega) rfl rfl rfl rfl (b_389 j12 (by omega) j14 (h6.fr80 j11)) (fun r85 w86 h87 => ?_)
                            obtain ⟨rfl, q88, q88T, hz89⟩ := h87
                            have f90 : e_fr kC80 w w86 := e_fr.trans j11 (e_fr.mono q88 (fun c k q => by exact q))
                            show e_Ok 1 elay code1 eI (d + 1) 403 (173, [(7, (0, 0)), (6, (0, z22)), (5, (0, w 276 (36 * y2 + y3 + 38))), (4, (0, 6 * y2 + y3)), (0, (1, 275)), (1, (0, y)), (2, (0, y2)), (3, (0, y3))], [], w86) _
                            refine e_Ok.inc (z := y3 + 1) rfl rfl (by omega) (by omega) ?_
                            show e_Ok 1 elay code1 eI (d + 1) 403 (176, [(3, (0, y3 + 1)), (7, (0, 0)), (6, (0, z22)), (5, (0, w 276 (36 * y2 + y3 + 38))), (4, (0, 6 * y2 + y3)), (0, (1, 275)), (1, (0, y)), (2, (0, y2))], [], w86) _
                            refine e_Ok.run (t' := (12, [(3, (0, y3 + 1)), (7, (0, 0)), (6, (0, z22)), (5, (0, w 276 (36 * y2 + y3 + 38))), (4, (0, 6 * y2 + y3)), (0, (1, 275)), (1, (0, y)), (2, (0, y2))], [], w86)) 1 rfl ?_
                            refine e_Ok.sub c1lk (e_sub_of rfl ?_) (ih10 (y3 + 1) w86 ⟨f90, q88T, by omega, hz89⟩ (by omega))
                            exact ⟨rfl, rfl, rfl, rfl, trivial⟩
                          · replace h84 : (0 : Int) ≠ 0 := by have q : ¬ ((0 : Int) = 0) := h84; omega
                            exfalso; omega
                      · replace h64 : (1 : Int) = 0 := by have q : ¬ ((1 : Int) ≠ 0) := h64; omega
                        exfalso; omega
                    · show e_Ok 1 elay code1 eI (d + 1) 403 (111, [(6, (0, z22)), (5, (0, w 276 (36 * y2 + y3 + 38))), (4, (0, 6 * y2 + y3)), (0, (1, 275)), (1, (0, y)), (2, (0, y2)), (3, (0, y3))], [(0, 0)], v2) _
                      refine e_Ok.if1 rfl (fun h91 => ?_) (fun h91 => ?_)
                      · replace h91 : (0 : Int) ≠ 0 := h91
                        exfalso; omega
                      · replace h91 : (0 : Int) = 0 := by have q : ¬ ((0 : Int) ≠ 0) := h91; omega
                        refine e_Ok.run (t' := (124, [(7, (0, 1)), (6, (0, z22)), (5, (0, w 276 (36 * y2 + y3 + 38))), (4, (0, 6 * y2 + y3)), (0, (1, 275)), (1, (0, y)), (2, (0, y2)), (3, (0, y3))], [(1, 275), (0, 0), (1, 275)], v2)) 6 rfl ?_
                        refine e_Ok.getr (z := 276) rfl rfl rfl rfl ((j11 275 0 (by unfold kC80; omega)).trans (e_Has.eq hT rfl)) (by omega) ?_
                        refine e_Ok.run (t' := (128, [(7, (0, 1)), (6, (0, z22)), (5, (0, w 276 (36 * y2 + y3 + 38))), (4, (0, 6 * y2 + y3)), (0, (1, 275)), (1, (0, y)), (2, (0, y2)), (3, (0, y3))], [(0, y2), (1, 276), (0, 0), (1, 275)], v2)) 1 rfl ?_
                        refine e_Ok.callS rfl (by omega) rfl rfl (b_268 (by omega)) (fun r92 w93 h94 => ?_)
                        obtain ⟨rfl, rfl⟩ := h94
                        show e_Ok 1 elay code1 eI (d + 1) 403 (131, [(7, (0, 1)), (6, (0, z22)), (5, (0, w 276 (36 * y2 + y3 + 38))), (4, (0, 6 * y2 + y3)), (0, (1, 275)), (1, (0, y)), (2, (0, y2)), (3, (0, y3))], [(0, 36 * y2 + 16), (1, 276), (0, 0), (1, 275)], v2) _
                        refine e_Ok.run (t' := (133, [(7, (0, 1)), (6, (0, z22)), (5, (0, w 276 (36 * y2 + y3 + 38))), (4, (0, 6 * y2 + y3)), (0, (1, 275)), (1, (0, y)), (2, (0, y2)), (3, (0, y3))], [(0, 16), (0, 36 * y2 + 16), (1, 276), (0, 0), (1, 275)], v2)) 1 rfl ?_
                        refine e_Ok.add (z := 36 * y2 + 32) rfl (by omega) (by omega) ?_
                        refine e_Ok.run (t' := (135, [(7, (0, 1)), (6, (0, z22)), (5, (0, w 276 (36 * y2 + y3 + 38))), (4, (0, 6 * y2 + y3)), (0, (1, 275)), (1, (0, y)), (2, (0, y2)), (3, (0, y3))], [(0, y3), (0, 36 * y2 + 32), (1, 276), (0, 0), (1, 275)], v2)) 1 rfl ?_
                        refine e_Ok.add (z := 36 * y2 + y3 + 32) rfl (by omega) (by omega) ?_
                        have h95 := (e_Has.get hT (c := 276) (k := 36 * y2 + y3 + 32) (lo := (-100000)) (hi := 100000) (nR_VALUE (a := y2) (j := y3) (by omega) (by omega)) (by decide))
                        refine e_Ok.ald (z := w 276 (36 * y2 + y3 + 32)) rfl rfl rfl (by omega) ((j11 276 (36 * y2 + y3 + 32) (by unfold kC80; omega)).trans rfl) (by omega) ?_
                        refine e_Ok.run (t' := (139, [(7, (0, 1)), (6, (0, z22)), (5, (0, w 276 (36 * y2 + y3 + 38))), (4, (0, 6 * y2 + y3)), (0, (1, 275)), (1, (0, y)), (2, (0, y2)), (3, (0, y3))], [(1, 275), (4, w 276 (36 * y2 + y3 + 32)), (0, 0), (1, 275)], v2)) 2 rfl ?_
                        refine e_Ok.getr (z := 288) rfl rfl rfl rfl ((j11 275 17 (by unfold kC80; omega)).trans (e_Has.eq hT rfl)) (by omega) ?_
                        refine e_Ok.run (t' := (144, [(7, (0, 1)), (6, (0, z22)), (5, (0, w 276 (36 * y2 + y3 + 38))), (4, (0, 6 * y2 + y3)), (0, (1, 275)), (1, (0, y)), (2, (0, y2)), (3, (0, y3))], [(0, 6 * y2 + y3), (1, 288), (4, w 276 (36 * y2 + y3 + 32)), (0, 0), (1, 275)], v2)) 1 rfl ?_
                        have h101 := (e_Has.get hT (c := 288) (k := 6 * y2 + y3) (lo := (-100000)) (hi := 0) rfl (by decide))
                        refine e_Ok.ald (z := w 288 (6 * y2 + y3)) rfl rfl rfl (by omega) ((j11 288 (6 * y2 + y3) (by unfold kC80; omega)).trans rfl) (by omega) ?_
                        refine e_Ok.run (t' := (147, [(7, (0, 1)), (6, (0, z22)), (5, (0, w 276 (36 * y2 + y3 + 38))), (4, (0, 6 * y2 + y3)), (0, (1, 275)), (1, (0, y)), (2, (0, y2)), (3, (0, y3))], [(1, 275), (4, w 288 (6 * y2 + y3)), (4, w 276 (36 * y2 + y3 + 32)), (0, 0), (1, 275)], v2)) 2 rfl ?_
                        refine e_Ok.getr (z := 289) rfl rfl rfl rfl ((j11 275 18 (by unfold kC80; omega)).trans (e_Has.eq hT rfl)) (by omega) ?_
                        refine e_Ok.run (t' := (152, [(7, (0, 1)), (6, (0, z22)), (5, (0, w 276 (36 * y2 + y3 + 38))), (4, (0, 6 * y2 + y3)), (0, (1, 275)), (1, (0, y)), (2, (0, y2)), (3, (0, y3))], [(0, 6 * y2 + y3), (1, 289), (4, w 288 (6 * y2 + y3)), (4, w 276 (36 * y2 + y3 + 32)), (0, 0), (1, 275)], v2)) 1 rfl ?_
                        have h103 := (e_Has.get hT (c := 289) (k := 6 * y2 + y3) (lo := 0) (hi := 100000) rfl (by decide))
                        refine e_Ok.ald (z := w 289 (6 * y2 + y3)) rfl rfl rfl (by omega) ((j11 289 (6 * y2 + y3) (by unfold kC80; omega)).trans rfl) (by omega) ?_
                        refine e_Ok.run (t' := (154, [(7, (0, 1)), (6, (0, z22)), (5, (0, w 276 (36 * y2 + y3 + 38))), (4, (0, 6 * y2 + y3)), (0, (1, 275)), (1, (0, y)), (2, (0, y2)), (3, (0, y3))], [(4, w 289 (6 * y2 + y3)), (4, w 288 (6 * y2 + y3)), (4, w 276 (36 * y2 + y3 + 32)), (0, 0), (1, 275)], v2)) 1 rfl ?_
                        refine e_Ok.callS rfl (by omega) rfl rfl (b_266) (fun r104 w105 h106 => ?_)
                        obtain ⟨z107, rfl, rfl, q108⟩ := h106
                        obtain ⟨rfl, q108⟩ | ⟨rfl, q108⟩ := q108
                        · show e_Ok 1 elay code1 eI (d + 1) 403 (157, [(7, (0, 1)), (6, (0, z22)), (5, (0, w 276 (36 * y2 + y3 + 38))), (4, (0, 6 * y2 + y3)), (0, (1, 275)), (1, (0, y)), (2, (0, y2)), (3, (0, y3))], [(0, 1), (0, 0), (1, 275)], v2) _
                          refine e_Ok.if1 rfl (fun h109 => ?_) (fun h109 => ?_)
                          · replace h109 : (1 : Int) = 0 := h109
                            exfalso; omega
                          · replace h109 : (1 : Int) ≠ 0 := by have q : ¬ ((1 : Int) = 0) := h109; omega
                            refine e_Ok.run (t' := (162, [(7, (0, 1)), (6, (0, z22)), (5, (0, w 276 (36 * y2 + y3 + 38))), (4, (0, 6 * y2 + y3)), (0, (1, 275)), (1, (0, y)), (2, (0, y2)), (3, (0, y3))], [(0, 1), (0, 0), (1, 275)], v2)) 1 rfl ?_
                            refine e_Ok.if1 rfl (fun h110 => ?_) (fun h110 => ?_)
                            · replace h110 : (1 : Int) = 0 := h110
                              exfalso; omega
                            · replace h110 : (1 : Int) ≠ 0 := by have q : ¬ ((1 : Int) = 0) := h110; omega
                              refine e_Ok.run (t' := (170, [(7, (0, 1)), (6, (0, z22)), (5, (0, w 276 (36 * y2 + y3 + 38))), (4, (0, 6 * y2 + y3)), (0, (1, 275)), (1, (0, y)), (2, (0, y2)), (3, (0, y3))], [(0, 1), (0, 0), (1, 275)], v2)) 2 rfl ?_
                              refine e_Ok.callV rfl (by omega) rfl rfl rfl rfl (b_389 j12 (by omega) j14 (h6.fr80 j11)) (fun r111 w112 h113 => ?_)
                              obtain ⟨rfl, q114, q114T, hz115⟩ := h113
                              have f116 : e_fr kC80 w w112 := e_fr.trans j11 (e_fr.mono q114 (fun c k q => by exact q))
                              show e_Ok 1 elay code1 eI (d + 1) 403 (173, [(7, (0, 1)), (6, (0, z22)), (5, (0, w 276 (36 * y2 + y3 + 38))), (4, (0, 6 * y2 + y3)), (0, (1, 275)), (1, (0, y)), (2, (0, y2)), (3, (0, y3))], [], w112) _
                              refine e_Ok.inc (z := y3 + 1) rfl rfl (by omega) (by omega) ?_
                              show e_Ok 1 elay code1 eI (d + 1) 403 (176, [(3, (0, y3 + 1)), (7, (0, 1)), (6, (0, z22)), (5, (0, w 276 (36 * y2 + y3 + 38))), (4, (0, 6 * y2 + y3)), (0, (1, 275)), (1, (0, y)), (2, (0, y2))], [], w112) _
                              refine e_Ok.run (t' := (12, [(3, (0, y3 + 1)), (7, (0, 1)), (6, (0, z22)), (5, (0, w 276 (36 * y2 + y3 + 38))), (4, (0, 6 * y2 + y3)), (0, (1, 275)), (1, (0, y)), (2, (0, y2))], [], w112)) 1 rfl ?_
                              refine e_Ok.sub c1lk (e_sub_of rfl ?_) (ih10 (y3 + 1) w112 ⟨f116, q114T, by omega, hz115⟩ (by omega))
                              exact ⟨rfl, rfl, rfl, rfl, trivial⟩
                        · show e_Ok 1 elay code1 eI (d + 1) 403 (157, [(7, (0, 1)), (6, (0, z22)), (5, (0, w 276 (36 * y2 + y3 + 38))), (4, (0, 6 * y2 + y3)), (0, (1, 275)), (1, (0, y)), (2, (0, y2)), (3, (0, y3))], [(0, 0), (0, 0), (1, 275)], v2) _
                          refine e_Ok.if1 rfl (fun h117 => ?_) (fun h117 => ?_)
                          · replace h117 : (0 : Int) = 0 := h117
                            refine e_Ok.run (t' := (170, [(7, (0, 1)), (6, (0, z22)), (5, (0, w 276 (36 * y2 + y3 + 38))), (4, (0, 6 * y2 + y3)), (0, (1, 275)), (1, (0, y)), (2, (0, y2)), (3, (0, y3))], [(0, 1), (0, 0), (1, 275)], v2)) 2 rfl ?_
                            refine e_Ok.callV rfl (by omega) rfl rfl rfl rfl (b_389 j12 (by omega) j14 (h6.fr80 j11)) (fun r118 w119 h120 => ?_)
                            obtain ⟨rfl, q121, q121T, hz122⟩ := h120
                            have f123 : e_fr kC80 w w119 := e_fr.trans j11 (e_fr.mono q121 (fun c k q => by exact q))
                            show e_Ok 1 elay code1 eI (d + 1) 403 (173, [(7, (0, 1)), (6, (0, z22)), (5, (0, w 276 (36 * y2 + y3 + 38))), (4, (0, 6 * y2 + y3)), (0, (1, 275)), (1, (0, y)), (2, (0, y2)), (3, (0, y3))], [], w119) _
                            refine e_Ok.inc (z := y3 + 1) rfl rfl (by omega) (by omega) ?_
                            show e_Ok 1 elay code1 eI (d + 1) 403 (176, [(3, (0, y3 + 1)), (7, (0, 1)), (6, (0, z22)), (5, (0, w 276 (36 * y2 + y3 + 38))), (4, (0, 6 * y2 + y3)), (0, (1, 275)), (1, (0, y)), (2, (0, y2))], [], w119) _
                            refine e_Ok.run (t' := (12, [(3, (0, y3 + 1)), (7, (0, 1)), (6, (0, z22)), (5, (0, w 276 (36 * y2 + y3 + 38))), (4, (0, 6 * y2 + y3)), (0, (1, 275)), (1, (0, y)), (2, (0, y2))], [], w119)) 1 rfl ?_
                            refine e_Ok.sub c1lk (e_sub_of rfl ?_) (ih10 (y3 + 1) w119 ⟨f123, q121T, by omega, hz122⟩ (by omega))
                            exact ⟨rfl, rfl, rfl, rfl, trivial⟩
                          · replace h117 : (0 : Int) ≠ 0 := by have q : ¬ ((0 : Int) = 0) := h117; omega
                            exfalso; omega
                · show e_Ok 1 elay code1 eI (d + 1) 403 (85, [(6, (0, z22)), (5, (0, w 276 (36 * y2 + y3 + 38))), (4, (0, 6 * y2 + y3)), (0, (1, 275)), (1, (0, y)), (2, (0, y2)), (3, (0, y3))], [(0, 0)], v2) _
                  refine e_Ok.if1 rfl (fun h124 => ?_) (fun h124 => ?_)
                  · replace h124 : (0 : Int) = 0 := h124
                    refine e_Ok.run (t' := (124, [(7, (0, 1)), (6, (0, z22)), (5, (0, w 276 (36 * y2 + y3 + 38))), (4, (0, 6 * y2 + y3)), (0, (1, 275)), (1, (0, y)), (2, (0, y2)), (3, (0, y3))], [(1, 275), (0, 0), (1, 275)], v2)) 6 rfl ?_
                    refine e_Ok.getr (z := 276) rfl rfl rfl rfl ((j11 275 0 (by unfold kC80; omega)).trans (e_Has.eq hT rfl)) (by omega) ?_
                    refine e_Ok.run (t' := (128, [(7, (0, 1)), (6, (0, z22)), (5, (0, w 276 (36 * y2 + y3 + 38))), (4, (0, 6 * y2 + y3)), (0, (1, 275)), (1, (0, y)), (2, (0, y2)), (3, (0, y3))], [(0, y2), (1, 276), (0, 0), (1, 275)], v2)) 1 rfl ?_
                    refine e_Ok.callS rfl (by omega) rfl rfl (b_268 (by omega)) (fun r125 w126 h127 => ?_)
                    obtain ⟨rfl, rfl⟩ := h127
                    show e_Ok 1 elay code1 eI (d + 1) 403 (131, [(7, (0, 1)), (6, (0, z22)), (5, (0, w 276 (36 * y2 + y3 + 38))), (4, (0, 6 * y2 + y3)), (0, (1, 275)), (1, (0, y)), (2, (0, y2)), (3, (0, y3))], [(0, 36 * y2 + 16), (1, 276), (0, 0), (1, 275)], v2) _
                    refine e_Ok.run (t' := (133, [(7, (0, 1)), (6, (0, z22)), (5, (0, w 276 (36 * y2 + y3 + 38))), (4, (0, 6 * y2 + y3)), (0, (1, 275)), (1, (0, y)), (2, (0, y2)), (3, (0, y3))], [(0, 16), (0, 36 * y2 + 16), (1, 276), (0, 0), (1, 275)], v2)) 1 rfl ?_
                    refine e_Ok.add (z := 36 * y2 + 32) rfl (by omega) (by omega) ?_
                    refine e_Ok.run (t' := (135, [(7, (0, 1)), (6, (0, z22)), (5, (0, w 276 (36 * y2 + y3 + 38))), (4, (0, 6 * y2 + y3)), (0, (1, 275)), (1, (0, y)), (2, (0, y2)), (3, (0, y3))], [(0, y3), (0, 36 * y2 + 32), (1, 276), (0, 0), (1, 275)], v2)) 1 rfl ?_
                    refine e_Ok.add (z := 36 * y2 + y3 + 32) rfl (by omega) (by omega) ?_
                    have h128 := (e_Has.get hT (c := 276) (k := 36 * y2 + y3 + 32) (lo := (-100000)) (hi := 100000) (nR_VALUE (a := y2) (j := y3) (by omega) (by omega)) (by decide))
                    refine e_Ok.ald (z := w 276 (36 * y2 + y3 + 32)) rfl rfl rfl (by omega) ((j11 276 (36 * y2 + y3 + 32) (by unfold kC80; omega)).trans rfl) (by omega) ?_
                    refine e_Ok.run (t' := (139, [(7, (0, 1)), (6, (0, z22)), (5, (0, w 276 (36 * y2 + y3 + 38))), (4, (0, 6 * y2 + y3)), (0, (1, 275)), (1, (0, y)), (2, (0, y2)), (3, (0, y3))], [(1, 275), (4, w 276 (36 * y2 + y3 + 32)), (0, 0), (1, 275)], v2)) 2 rfl ?_
                    refine e_Ok.getr (z := 288) rfl rfl rfl rfl ((j11 275 17 (by unfold kC80; omega)).trans (e_Has.eq hT rfl)) (by omega) ?_
                    refine e_Ok.run (t' := (144, [(7, (0, 1)), (6, (0, z22)), (5, (0, w 276 (36 * y2 + y3 + 38))), (4, (0, 6 * y2 + y3)), (0, (1, 275)), (1, (0, y)), (2, (0, y2)), (3, (0, y3))], [(0, 6 * y2 + y3), (1, 288), (4, w 276 (36 * y2 + y3 + 32)), (0, 0), (1, 275)], v2)) 1 rfl ?_
                    have h129 := (e_Has.get hT (c := 288) (k := 6 * y2 + y3) (lo := (-100000)) (hi := 0) rfl (by decide))
                    refine e_Ok.ald (z := w 288 (6 * y2 + y3)) rfl rfl rfl (by omega) ((j11 288 (6 * y2 + y3) (by unfold kC80; omega)).trans rfl) (by omega) ?_
                    refine e_Ok.run (t' := (147, [(7, (0, 1)), (6, (0, z22)), (5, (0, w 276 (36 * y2 + y3 + 38))), (4, (0, 6 * y2 + y3)), (0, (1, 275)), (1, (0, y)), (2, (0, y2)), (3, (0, y3))], [(1, 275), (4, w 288 (6 * y2 + y3)), (4, w 276 (36 * y2 + y3 + 32)), (0, 0), (1, 275)], v2)) 2 rfl ?_
                    refine e_Ok.getr (z := 289) rfl rfl rfl rfl ((j11 275 18 (by unfold kC80; omega)).trans (e_Has.eq hT rfl)) (by omega) ?_
                    refine e_Ok.run (t' := (152, [(7, (0, 1)), (6, (0, z22)), (5, (0, w 276 (36 * y2 + y3 + 38))), (4, (0, 6 * y2 + y3)), (0, (1, 275)), (1, (0, y)), (2, (0, y2)), (3, (0, y3))], [(0, 6 * y2 + y3), (1, 289), (4, w 288 (6 * y2 + y3)), (4, w 276 (36 * y2 + y3 + 32)), (0, 0), (1, 275)], v2)) 1 rfl ?_
                    have h130 := (e_Has.get hT (c := 289) (k := 6 * y2 + y3) (lo := 0) (hi := 100000) rfl (by decide))
                    refine e_Ok.ald (z := w 289 (6 * y2 + y3)) rfl rfl rfl (by omega) ((j11 289 (6 * y2 + y3) (by unfold kC80; omega)).trans rfl) (by omega) ?_
                    refine e_Ok.run (t' := (154, [(7, (0, 1)), (6, (0, z22)), (5, (0, w 276 (36 * y2 + y3 + 38))), (4, (0, 6 * y2 + y3)), (0, (1, 275)), (1, (0, y)), (2, (0, y2)), (3, (0, y3))], [(4, w 289 (6 * y2 + y3)), (4, w 288 (6 * y2 + y3)), (4, w 276 (36 * y2 + y3 + 32)), (0, 0), (1, 275)], v2)) 1 rfl ?_
                    refine e_Ok.callS rfl (by omega) rfl rfl (b_266) (fun r131 w132 h133 => ?_)
                    obtain ⟨z134, rfl, rfl, q135⟩ := h133
                    obtain ⟨rfl, q135⟩ | ⟨rfl, q135⟩ := q135
                    · show e_Ok 1 elay code1 eI (d + 1) 403 (157, [(7, (0, 1)), (6, (0, z22)), (5, (0, w 276 (36 * y2 + y3 + 38))), (4, (0, 6 * y2 + y3)), (0, (1, 275)), (1, (0, y)), (2, (0, y2)), (3, (0, y3))], [(0, 1), (0, 0), (1, 275)], v2) _
                      refine e_Ok.if1 rfl (fun h136 => ?_) (fun h136 => ?_)
                      · replace h136 : (1 : Int) = 0 := h136
                        exfalso; omega
                      · replace h136 : (1 : Int) ≠ 0 := by have q : ¬ ((1 : Int) = 0) := h136; omega
                        refine e_Ok.run (t' := (162, [(7, (0, 1)), (6, (0, z22)), (5, (0, w 276 (36 * y2 + y3 + 38))), (4, (0, 6 * y2 + y3)), (0, (1, 275)), (1, (0, y)), (2, (0, y2)), (3, (0, y3))], [(0, 1), (0, 0), (1, 275)], v2)) 1 rfl ?_
                        refine e_Ok.if1 rfl (fun h137 => ?_) (fun h137 => ?_)
                        · replace h137 : (1 : Int) = 0 := h137
                          exfalso; omega
                        · replace h137 : (1 : Int) ≠ 0 := by have q : ¬ ((1 : Int) = 0) := h137; omega
                          refine e_Ok.run (t' := (170, [(7, (0, 1)), (6, (0, z22)), (5, (0, w 276 (36 * y2 + y3 + 38))), (4, (0, 6 * y2 + y3)), (0, (1, 275)), (1, (0, y)), (2, (0, y2)), (3, (0, y3))], [(0, 1), (0, 0), (1, 275)], v2)) 2 rfl ?_
                          refine e_Ok.callV rfl (by omega) rfl rfl rfl rfl (b_389 j12 (by omega) j14 (h6.fr80 j11)) (fun r138 w139 h140 => ?_)
                          obtain ⟨rfl, q141, q141T, hz142⟩ := h140
                          have f143 : e_fr kC80 w w139 := e_fr.trans j11 (e_fr.mono q141 (fun c k q => by exact q))
                          show e_Ok 1 elay code1 eI (d + 1) 403 (173, [(7, (0, 1)), (6, (0, z22)), (5, (0, w 276 (36 * y2 + y3 + 38))), (4, (0, 6 * y2 + y3)), (0, (1, 275)), (1, (0, y)), (2, (0, y2)), (3, (0, y3))], [], w139) _
                          refine e_Ok.inc (z := y3 + 1) rfl rfl (by omega) (by omega) ?_
                          show e_Ok 1 elay code1 eI (d + 1) 403 (176, [(3, (0, y3 + 1)), (7, (0, 1)), (6, (0, z22)), (5, (0, w 276 (36 * y2 + y3 + 38))), (4, (0, 6 * y2 + y3)), (0, (1, 275)), (1, (0, y)), (2, (0, y2))], [], w139) _
                          refine e_Ok.run (t' := (12, [(3, (0, y3 + 1)), (7, (0, 1)), (6, (0, z22)), (5, (0, w 276 (36 * y2 + y3 + 38))), (4, (0, 6 * y2 + y3)), (0, (1, 275)), (1, (0, y)), (2, (0, y2))], [], w139)) 1 rfl ?_
                          refine e_Ok.sub c1lk (e_sub_of rfl ?_) (ih10 (y3 + 1) w139 ⟨f143, q141T, by omega, hz142⟩ (by omega))
                          exact ⟨rfl, rfl, rfl, rfl, trivial⟩
                    · show e_Ok 1 elay code1 eI (d + 1) 403 (157, [(7, (0, 1)), (6, (0, z22)), (5, (0, w 276 (36 * y2 + y3 + 38))), (4, (0, 6 * y2 + y3)), (0, (1, 275)), (1, (0, y)), (2, (0, y2)), (3, (0, y3))], [(0, 0), (0, 0), (1, 275)], v2) _
                      refine e_Ok.if1 rfl (fun h144 => ?_) (fun h144 => ?_)
                      · replace h144 : (0 : Int) = 0 := h144
                        refine e_Ok.run (t' := (170, [(7, (0, 1)), (6, (0, z22)), (5, (0, w 276 (36 * y2 + y3 + 38))), (4, (0, 6 * y2 + y3)), (0, (1, 275)), (1, (0, y)), (2, (0, y2)), (3, (0, y3))], [(0, 1), (0, 0), (1, 275)], v2)) 2 rfl ?_
                        refine e_Ok.callV rfl (by omega) rfl rfl rfl rfl (b_389 j12 (by omega) j14 (h6.fr80 j11)) (fun r145 w146 h147 => ?_)
                        obtain ⟨rfl, q148, q148T, hz149⟩ := h147
                        have f150 : e_fr kC80 w w146 := e_fr.trans j11 (e_fr.mono q148 (fun c k q => by exact q))
                        show e_Ok 1 elay code1 eI (d + 1) 403 (173, [(7, (0, 1)), (6, (0, z22)), (5, (0, w 276 (36 * y2 + y3 + 38))), (4, (0, 6 * y2 + y3)), (0, (1, 275)), (1, (0, y)), (2, (0, y2)), (3, (0, y3))], [], w146) _
                        refine e_Ok.inc (z := y3 + 1) rfl rfl (by omega) (by omega) ?_
                        show e_Ok 1 elay code1 eI (d + 1) 403 (176, [(3, (0, y3 + 1)), (7, (0, 1)), (6, (0, z22)), (5, (0, w 276 (36 * y2 + y3 + 38))), (4, (0, 6 * y2 + y3)), (0, (1, 275)), (1, (0, y)), (2, (0, y2))], [], w146) _
                        refine e_Ok.run (t' := (12, [(3, (0, y3 + 1)), (7, (0, 1)), (6, (0, z22)), (5, (0, w 276 (36 * y2 + y3 + 38))), (4, (0, 6 * y2 + y3)), (0, (1, 275)), (1, (0, y)), (2, (0, y2))], [], w146)) 1 rfl ?_
                        refine e_Ok.sub c1lk (e_sub_of rfl ?_) (ih10 (y3 + 1) w146 ⟨f150, q148T, by omega, hz149⟩ (by omega))
                        exact ⟨rfl, rfl, rfl, rfl, trivial⟩
                      · replace h144 : (0 : Int) ≠ 0 := by have q : ¬ ((0 : Int) = 0) := h144; omega
                        exfalso; omega
                  · replace h124 : (0 : Int) ≠ 0 := by have q : ¬ ((0 : Int) = 0) := h124; omega
                    exfalso; omega
        refine e_Ok.sub c1lk (e_sub_of rfl ?_) (hL9 (7 + 1 : Int).toNat 0 v1 ⟨j3, j4, by omega, j6⟩ (by omega))
        exact ⟨rfl, rfl, rfl, rfl, trivial⟩
  refine e_Ok.sub c1lk (e_sub_of rfl ?_) (hL1 (5 + 1 : Int).toNat 0 w ⟨(e_fr.refl w), hT, by omega, hz⟩ (by omega))
  exact ⟨rfl, rfl, rfl, trivial⟩
theorem e_Good.bare {ft : Nat → Nat → Nat} {cl : List vw_C} {lay : List eY} {ad : List Nat} {ce sl nL : Nat} {p : Program} {l : Launch} {e : Env} {R : Room} {s : State} {m : MethodId} {args : Array Value} {below : List Frame} {meth : Method} {c : Code} {D : va_G} {A : Nat → Prop} {H0 : Heap} {Q : State → Prop} {pc : Nat} {l' : eL} {st : List eV} {w : eW} (h : e_Good ft cl lay ad ce sl nL p l e R s m args below meth c D A H0 Q (pc, [], st, w)) : e_Good ft cl lay ad ce sl nL p l e R s m args below meth c D A H0 Q (pc, l', st, w) := fun ls stk H locs hI => by
  obtain ⟨lv, ws, tys, h1, h2, h3⟩ := hI
  exact h ls stk H locs ⟨[], ws, tys, ⟨h1.1, h1.2.1, fun _ q => absurd q List.not_mem_nil⟩, trivial, h3⟩
theorem mac_403 {l : Launch} : e_Mac 20 eft cls elay (eI 403) l 0 e_mCj := by
  intro d ad ce sl p e R s m args below meth c D A H0 Q hfd C hce hsl hd hdl hA t t' l' u ht hf hs hu IH
  obtain ⟨pc0, l0, st, w⟩ := t
  subst ht
  unfold e_mCj at hf
  simp only at hf
  split at hf
  · rename_i j x h0 h1
    split at hf
    · rename_i hc
      cases hf
      obtain ⟨rfl, hTy⟩ := hc
      intro ls stk H locs hI
      have hI2 := hI
      obtain ⟨lv, ws, tys, k1, k2, k3, k4, k5, k6, k7, k8⟩ := hI
      have hu2 : e_rf w u := hu
      have hTu : e_Has mTy u := hTy.rf hu2
      have e346 : e_kn u 346 0 23 := fun i g0 g1 => by
        have z := k4.ar (j := 346) (n := 24) rfl i.toNat (by omega)
        rw [show ((i.toNat : Nat) : Int) = i by omega] at z
        exact z
      have e280 : e_kn u 280 0 3 := fun i g0 g1 => by
        have z := k4.ar (j := 280) (n := 4) rfl i.toNat (by omega)
        rw [show ((i.toNat : Nat) : Int) = i by omega] at z
        exact z
      obtain ⟨n, r, w', hgo, hr, hfr⟩ := b_403 (d := 20) (by omega) hTu (y := x) e346 e280 (k4.fd (j := 275) (c := 12) (n := 119) rfl 6 (by decide) rfl)
      subst hr
      have key := e_frm (l := l) code1_tab n 20 403 _ [] w' hgo C hce hsl (by omega) (by omega) hA (Q := Q) (e := e) (below := below) (D := D) (fun t1 f k b hc1 hr1 hw1 => by
        obtain ⟨p1, l1, st1, w1⟩ := t1
        have hw2 : w1 = w' := hw1
        subst hw2
        have e1 : p1 = 185 ∧ k = 0 := b403_ret p1 f k b hc1
        obtain ⟨rfl, rfl⟩ := e1
        have hst : st1 = [] := by
          match st1, hr1 with
          | [], _ => rfl
        subst hst
        exact e_Good.bare (IH [] w1 ⟨List.nodup_nil, fun _ q => absurd q List.not_mem_nil⟩ (hv_rf hu2 hfr)))
      exact e_Good.two (hs.find h0) (hs.find h1) key ls stk H locs hI2
    · cases hf
  · cases hf
end
end
-- part 49l
section
noncomputable section
/-! the table with macros and texts may be trusted -/
theorem e_TCc {R : Nat → Prop} {k : Nat} {a b a' b' : Nat → Nat → eE} (ha : ∀ M, R M ∧ M ≤ k → a M = a' M) (hb : ∀ M, R M ∧ k < M → b M = b' M) : ∀ M, R M → e_TC k a b M = e_TC k a' b' M := fun M h => by
  unfold e_TC
  cases hk : Nat.ble M k with
  | true => exact ha M ⟨h, Nat.le_of_ble_eq_true hk⟩
  | false => exact hb M ⟨h, Nat.lt_of_not_le (fun q => by rw [Nat.ble_eq_true_of_le q] at hk; cases hk)⟩
theorem ec_off : ∀ M, (M ≠ 126 ∧ M ≠ 127 ∧ M ≠ 128 ∧ M ≠ 249 ∧ M ≠ 328 ∧ M ≠ 389 ∧ M ≠ 403) → ecode M = ecode0 M := by
  unfold ecode ecode0
  exact (e_TCc (k := 225) (e_TCc (k := 112) (fun _ _ => rfl) (e_TCc (k := 168) (e_TCc (k := 140) (e_TCc (k := 126) (e_TCc (k := 119) (fun _ _ => rfl) (e_TCc (k := 122) (fun _ _ => rfl) (e_TCc (k := 124) (fun _ _ => rfl) (e_TCc (k := 125) (fun _ _ => rfl) (fun M h => by exfalso; omega))))) (e_TCc (k := 133) (e_TCc (k := 129) (e_TCc (k := 127) (fun M h => by exfalso; omega) (e_TCc (k := 128) (fun M h => by exfalso; omega) (fun _ _ => rfl))) (fun _ _ => rfl)) (fun _ _ => rfl))) (fun _ _ => rfl)) (fun _ _ => rfl))) (e_TCc (k := 338) (e_TCc (k := 281) (e_TCc (k := 253) (e_TCc (k := 239) (fun _ _ => rfl) (e_TCc (k := 246) (fun _ _ => rfl) (e_TCc (k := 249) (e_TCc (k := 247) (fun _ _ => rfl) (e_TCc (k := 248) (fun _ _ => rfl) (fun M h => by exfalso; omega))) (fun _ _ => rfl)))) (fun _ _ => rfl)) (e_TCc (k := 309) (fun _ _ => rfl) (e_TCc (k := 323) (fun _ _ => rfl) (e_TCc (k := 330) (e_TCc (k := 326) (fun _ _ => rfl) (e_TCc (k := 328) (e_TCc (k := 327) (fun _ _ => rfl) (fun M h => by exfalso; omega)) (fun _ _ => rfl))) (fun _ _ => rfl))))) (e_TCc (k := 395) (e_TCc (k := 366) (fun _ _ => rfl) (e_TCc (k := 380) (fun _ _ => rfl) (e_TCc (k := 387) (fun _ _ => rfl) (e_TCc (k := 391) (e_TCc (k := 389) (e_TCc (k := 388) (fun _ _ => rfl) (fun M h => by exfalso; omega)) (fun _ _ => rfl)) (fun _ _ => rfl))))) (e_TCc (k := 423) (e_TCc (k := 409) (e_TCc (k := 402) (fun _ _ => rfl) (e_TCc (k := 405) (e_TCc (k := 403) (fun M h => by exfalso; omega) (fun _ _ => rfl)) (fun _ _ => rfl))) (fun _ _ => rfl)) (fun _ _ => rfl)))))
theorem ec_R {l : Launch} (M pc : Nat) : e_EOR 20 eft cls elay eI (eI M) l pc (ecode M pc) := by
  by_cases h126 : M = 126
  · subst h126
    exact (show e_EOR 20 eft cls elay eI n_126 l pc (te_126m pc) from te_126m_R pc)
  by_cases h127 : M = 127
  · subst h127
    exact (show e_EOR 20 eft cls elay eI n_127 l pc (te_127m pc) from te_127m_R pc)
  by_cases h128 : M = 128
  · subst h128
    exact (show e_EOR 20 eft cls elay eI n_128 l pc (te_128m pc) from te_128m_R pc)
  by_cases h249 : M = 249
  · subst h249
    exact (show e_EOR 20 eft cls elay eI n_249 l pc (te_249m pc) from e_EOR.of (te_249m_ok pc))
  by_cases h328 : M = 328
  · subst h328
    exact (show e_EOR 20 eft cls elay eI n_328 l pc (te_328m pc) from te_328m_R pc)
  by_cases h389 : M = 389
  · subst h389
    exact (show e_EOR 20 eft cls elay eI n_389 l pc (te_389m pc) from e_orb (Or.inr (mac_389 code1_tab)) (e_EOR.of (te_389_ok pc)))
  by_cases h403 : M = 403
  · subst h403
    exact (show e_EOR 20 eft cls elay eI n_403 l pc (te_403m pc) from e_orb (Or.inr mac_403) (e_EOR.of (te_403_ok pc)))
  rw [ec_off M ⟨h126, h127, h128, h249, h328, h389, h403⟩]
  exact e_EOR.of (e_tr_ok M pc)
theorem ec_tabR {l : Launch} : e_TabR 20 eft cls elay eI ecode l := ⟨by decide, ec_R, e_tab0.2.2.1, e_tab0.2.2.2⟩
/-! what it reaches -/
def e_inP (en : eE) : Prop := ∀ f a b, en = (0, f, a, b) → e_IN eft elay f
theorem e_inP.of {q : xM} {pc : Nat} {en : eE} (h : e_EOq eft cls elay eI q pc en) : e_inP en := fun f a b e => by
  rw [e] at h
  exact h.2.2
theorem e_inP.bif {b : Bool} {x y : eE} (hx : e_inP x) (hy : e_inP y) : e_inP (bif b then x else y) := by
  cases b
  · exact hy
  · exact hx
theorem e_inP.en {f : eS → Option eS} (h : e_IN eft elay f) : e_inP (0, f, 0, 0) := fun f' a b e => by cases e; exact h
theorem e_BB.m {B : Int → Prop} (hB : e_BB B) (h : B 275) : ∀ c, B c ↔ (275 ≤ c ∧ c ≤ 356) := by
  rcases hB with hB | hB
  · have := (hB 275).mp h
    omega
  · exact hB
theorem e_wB.hv {B : Int → Prop} {w : eW} (h : e_wB eft elay B w) : e_wB eft elay B (e_hv 280 w) := by
  have hy : elay[(280 : Int).toNat]? = some (1, 0, 4) := rfl
  refine ⟨fun c k hc hr => ?_, fun c k ci n hc hl h0 h1 => ?_⟩
  · have n : c ≠ 280 := fun e => by
      rw [e] at hr
      obtain ⟨kd, ci, n, g1, -, g2⟩ := hr
      rw [hy] at g1
      cases g1
      rcases g2 with g2 | g2 | g2
      · cases g2.1
      · cases g2
      · cases g2
    rw [show e_hv 280 w c k = w c k from if_neg n]
    exact h.1 c k hc hr
  · have n : c ≠ 280 := fun e => by
      rw [e, hy] at hl
      cases hl
    rw [show e_hv 280 w c k = w c k from if_neg n]
    exact h.2 c k ci _ hc hl h0 h1
theorem in_mTal : e_IN eft elay e_mTal := fun _ B hB t t' ht hI => by
  obtain ⟨p, l, st, w⟩ := t
  unfold e_mTal at ht
  simp only at ht
  split at ht
  · rename_i j x y h0 h1 h2
    split at ht
    · rename_i hc
      cases ht
      obtain ⟨rfl, -⟩ := hc
      have b5 : B 275 := by
        rcases hI.1 _ (e_find_mem h0) rfl with q | q
        · exact q
        · exact absurd q.1 (by decide)
      refine ⟨⟨hI.1, fun v hv => absurd hv List.not_mem_nil, hI.2.2.hv⟩, fun c k hc => if_neg (fun e => hc ?_)⟩
      rw [e]
      exact (hB.m b5 280).mpr (by decide)
    · cases ht
  · cases ht
theorem in_mCj : e_IN eft elay e_mCj := fun _ B hB t t' ht hI => by
  obtain ⟨p, l, st, w⟩ := t
  unfold e_mCj at ht
  simp only at ht
  split at ht
  · rename_i j x h0 h1
    split at ht
    · rename_i hc
      cases ht
      obtain ⟨rfl, -⟩ := hc
      have b5 : B 275 := by
        rcases hI.1 _ (e_find_mem h0) rfl with q | q
        · exact q
        · exact absurd q.1 (by decide)
      refine ⟨⟨fun v hv => absurd hv List.not_mem_nil, fun v hv => absurd hv List.not_mem_nil, hI.2.2.hv⟩, fun c k hc => if_neg (fun e => hc ?_)⟩
      rw [e]
      exact (hB.m b5 280).mpr (by decide)
    · cases ht
  · cases ht
theorem ec_in : e_InT eft elay ecode := fun M pc => by
  show e_inP (ecode M pc)
  by_cases h126 : M = 126
  · subst h126
    exact (show e_inP (te_126m pc) from (e_inP.bif (e_inP.en (nx_push (Or.inr ⟨by decide, by decide⟩)).2) (e_inP.bif (e_inP.en (nx_S bS_sl).2) (e_inP.bif (e_inP.en (nx_push (Or.inr ⟨by decide, by decide⟩)).2) (e_inP.bif (e_inP.en (nx_S bS_sc).2) (e_inP.of (te_126_ok pc)))))))
  by_cases h127 : M = 127
  · subst h127
    exact (show e_inP (te_127m pc) from (e_inP.bif (e_inP.en (nx_S bS_ml).2) (e_inP.of (te_127_ok pc))))
  by_cases h128 : M = 128
  · subst h128
    exact (show e_inP (te_128m pc) from (e_inP.bif (e_inP.en (nx_push (Or.inr ⟨by decide, by decide⟩)).2) (e_inP.bif (e_inP.en (nx_S bS_ix).2) (e_inP.of (te_128_ok pc)))))
  by_cases h249 : M = 249
  · subst h249
    exact (show e_inP (te_249m pc) from (e_inP.bif (e_inP.en (nx_push (Or.inr ⟨by decide, by decide⟩)).2) (e_inP.bif (e_inP.en (nx_S bS_sn).2) (e_inP.bif (e_inP.en (nx_push (Or.inr ⟨by decide, by decide⟩)).2) (e_inP.bif (e_inP.en (nx_S bS_sn).2) (e_inP.bif (e_inP.en (nx_push (Or.inr ⟨by decide, by decide⟩)).2) (e_inP.bif (e_inP.en (nx_S bS_sn).2) (e_inP.bif (e_inP.en (nx_push (Or.inr ⟨by decide, by decide⟩)).2) (e_inP.bif (e_inP.en (nx_S bS_sn).2) (e_inP.of (te_249_ok pc)))))))))))
  by_cases h328 : M = 328
  · subst h328
    exact (show e_inP (te_328m pc) from (e_inP.bif (e_inP.en (nx_push (Or.inr ⟨by decide, by decide⟩)).2) (e_inP.bif (e_inP.en (nx_S bS_sl).2) (e_inP.bif (e_inP.en (nx_push (Or.inr ⟨by decide, by decide⟩)).2) (e_inP.bif (e_inP.en (nx_S bS_sc).2) (e_inP.bif (e_inP.en (nx_push (Or.inr ⟨by decide, by decide⟩)).2) (e_inP.bif (e_inP.en (nx_S bS_sc).2) (e_inP.bif (e_inP.en (nx_push (Or.inr ⟨by decide, by decide⟩)).2) (e_inP.bif (e_inP.en (nx_S bS_sc).2) (e_inP.bif (e_inP.en (nx_push (Or.inr ⟨by decide, by decide⟩)).2) (e_inP.bif (e_inP.en (nx_S bS_sc).2) (e_inP.of (te_328_ok pc)))))))))))))
  by_cases h389 : M = 389
  · subst h389
    exact (show e_inP (te_389m pc) from (e_inP.bif (e_inP.en in_mTal) (e_inP.of (te_389_ok pc))))
  by_cases h403 : M = 403
  · subst h403
    exact (show e_inP (te_403m pc) from (e_inP.bif (e_inP.en in_mCj) (e_inP.of (te_403_ok pc))))
  rw [ec_off M ⟨h126, h127, h128, h249, h328, h389, h403⟩]
  exact e_inP.of (e_tr_ok M pc)
end
end
-- part 49m
section
/-! methods by number -/
def ks_X0 : List Nat := [1, 1, 1, 1, 1, 1, 1, 1, 0, 0, 0, 0, 0, 0, 0, 0, 0, 0, 0, 0]
set_option maxRecDepth 20000 in
theorem df_X0 : ∀ j, j < 20 → defaultValue (tyX0 j) = vp_V (ks_X0.map x_fv) j := by decide +kernel
def ks_X1 : List Nat := [0, 0, 0, 1, 1]
set_option maxRecDepth 20000 in
theorem df_X1 : ∀ j, j < 5 → defaultValue (tyX1 j) = vp_V (ks_X1.map x_fv) j := by decide +kernel
def ks_X2 : List Nat := [0, 0, 0, 0, 0, 0, 0, 0, 1, 1, 1, 1, 1, 1, 1]
set_option maxRecDepth 20000 in
theorem df_X2 : ∀ j, j < 15 → defaultValue (tyX2 j) = vp_V (ks_X2.map x_fv) j := by decide +kernel
def ks_X3 : List Nat := [1, 1, 1, 1, 1, 1, 1, 1, 0, 0, 0, 0]
set_option maxRecDepth 20000 in
theorem df_X3 : ∀ j, j < 12 → defaultValue (tyX3 j) = vp_V (ks_X3.map x_fv) j := by decide +kernel
def ks_X4 : List Nat := [0, 0, 1, 1, 1, 1, 1, 1, 1, 1, 1, 1, 1, 1, 1, 1, 1, 1, 1, 1]
set_option maxRecDepth 20000 in
theorem df_X4 : ∀ j, j < 20 → defaultValue (tyX4 j) = vp_V (ks_X4.map x_fv) j := by decide +kernel
def ks_X5 : List Nat := [0, 0, 0, 0, 0, 0, 0, 0, 0, 0, 0, 0]
set_option maxRecDepth 20000 in
theorem df_X5 : ∀ j, j < 12 → defaultValue (tyX5 j) = vp_V (ks_X5.map x_fv) j := by decide +kernel
def ks_X6 : List Nat := [0, 0, 0, 0, 1, 1, 1, 1, 1, 1, 1, 1, 1]
set_option maxRecDepth 20000 in
theorem df_X6 : ∀ j, j < 13 → defaultValue (tyX6 j) = vp_V (ks_X6.map x_fv) j := by decide +kernel
def ks_X7 : List Nat := [1, 1, 1, 1, 1, 1, 1, 1]
set_option maxRecDepth 20000 in
theorem df_X7 : ∀ j, j < 8 → defaultValue (tyX7 j) = vp_V (ks_X7.map x_fv) j := by decide +kernel
def ks_X8 : List Nat := [0, 0, 0, 1, 1, 0, 0, 0, 0, 0, 0, 0, 0, 0, 0, 1, 1]
set_option maxRecDepth 20000 in
theorem df_X8 : ∀ j, j < 17 → defaultValue (tyX8 j) = vp_V (ks_X8.map x_fv) j := by decide +kernel
def ks_X9 : List Nat := [0, 0, 1, 1, 1, 1, 1, 1, 1, 1, 1, 1, 1, 0, 0, 0, 0]
set_option maxRecDepth 20000 in
theorem df_X9 : ∀ j, j < 17 → defaultValue (tyX9 j) = vp_V (ks_X9.map x_fv) j := by decide +kernel
def ks_X10 : List Nat := [0, 0, 0, 0, 0, 0, 0, 0, 0, 0, 0, 0, 0, 0, 0, 0, 1, 1, 1, 1, 1]
set_option maxRecDepth 20000 in
theorem df_X10 : ∀ j, j < 21 → defaultValue (tyX10 j) = vp_V (ks_X10.map x_fv) j := by decide +kernel
def ks_X11 : List Nat := [1, 1, 1, 1, 1, 1, 1, 1, 1, 1, 1, 0, 0, 0, 0]
set_option maxRecDepth 20000 in
theorem df_X11 : ∀ j, j < 15 → defaultValue (tyX11 j) = vp_V (ks_X11.map x_fv) j := by decide +kernel
def ks_X12 : List Nat := [1, 1, 1, 0, 1, 0, 0, 1, 1, 0, 0, 1, 1, 1, 1, 1, 1, 1, 1, 1, 1, 1, 1, 0, 1, 1, 1, 1, 1, 1, 0, 1, 1, 1, 1, 1, 1, 1, 1, 1, 0, 1, 0, 1, 1, 1, 1, 1, 1, 0, 1, 1, 1, 1, 1, 1, 1, 1, 0, 0, 0, 1, 1, 1, 1, 1, 1, 1, 1, 1, 1, 1, 1, 1, 1, 1, 1, 1, 0, 0, 0, 0, 0, 0, 0, 0, 0, 0, 0, 0, 1, 1, 1, 1, 0, 0, 0, 0, 0, 0, 0, 1, 0, 1, 1, 1, 1, 1, 1, 1, 0, 0, 0, 1, 1, 1, 1, 0, 0]
set_option maxRecDepth 20000 in
theorem df_X12 : ∀ j, j < 119 → defaultValue (tyX12 j) = vp_V (ks_X12.map x_fv) j := by decide +kernel
def mq_0 : xM := (x, code, 4, some .boolean, 60000, 8922250, 999)
def mq_1 : xM := (⟨"RobotCellHouse$Arm", "<init>", "()V"⟩, prog_2_method_1_code, 2, none, 16, 4184, 0)
def mq_2 : xM := (⟨"RobotCellHouse$Arm", "make", "(IIII)V"⟩, prog_2_method_2_code, 5, none, 0, 0, 0)
def mq_3 : xM := (⟨"RobotCellHouse$Arm", "rewind", "()V"⟩, prog_2_method_4_code, 2, none, 0, 0, 0)
def mq_4 : xM := (⟨"RobotCellHouse$Arm", "place", "()V"⟩, prog_2_method_11_code, 8, none, 0, 0, 0)
def mq_5 : xM := (⟨"RobotCellHouse$Arm", "keepPoints", "()V"⟩, prog_2_method_12_code, 2, none, 0, 0, 0)
def mq_6 : xM := (⟨"RobotCellHouse$Arm", "stand", "()V"⟩, prog_2_method_18_code, 2, none, 0, 0, 0)
def mq_7 : xM := (⟨"RobotCellHouse$Code", "<init>", "()V"⟩, prog_3_method_1_code, 1, none, 2, 4032, 1)
def mq_8 : xM := (⟨"RobotCellHouse$Code", "clear", "()V"⟩, prog_3_method_2_code, 1, none, 0, 0, 1)
def mq_9 : xM := (⟨"RobotCellHouse$Core", "<init>", "()V"⟩, prog_4_method_1_code, 1, none, 7, 8048, 2)
def mq_10 : xM := (⟨"RobotCellHouse$Core", "clear", "()V"⟩, prog_4_method_2_code, 2, none, 0, 0, 2)
def mq_11 : xM := (⟨"RobotCellHouse$Core", "rewind", "()V"⟩, prog_4_method_3_code, 2, none, 0, 0, 2)
def mq_12 : xM := (⟨"RobotCellHouse$Doer", "<init>", "()V"⟩, prog_5_method_1_code, 2, none, 241, 55853, 3)
def mq_13 : xM := (⟨"RobotCellHouse$Doer", "rewind", "()V"⟩, prog_5_method_2_code, 2, none, 0, 0, 3)
def mq_14 : xM := (⟨"RobotCellHouse$Floor", "<init>", "()V"⟩, prog_6_method_1_code, 1, none, 54, 496, 4)
def mq_15 : xM := (⟨"RobotCellHouse$Floor", "rewind", "()V"⟩, prog_6_method_6_code, 2, none, 0, 0, 4)
def mq_16 : xM := (⟨"RobotCellHouse$Joint", "<init>", "()V"⟩, prog_7_method_1_code, 1, none, 0, 0, 5)
def mq_17 : xM := (⟨"RobotCellHouse$Planner", "<init>", "()V"⟩, prog_8_method_1_code, 1, none, 9, 62144, 6)
def mq_18 : xM := (⟨"RobotCellHouse$Points", "<init>", "()V"⟩, prog_9_method_1_code, 1, none, 8, 512, 7)
def mq_19 : xM := (⟨"RobotCellHouse$Points", "clear", "()V"⟩, prog_9_method_2_code, 1, none, 0, 0, 7)
def mq_20 : xM := (⟨"RobotCellHouse$Points", "rewind", "()V"⟩, prog_9_method_3_code, 2, none, 0, 0, 7)
def mq_21 : xM := (⟨"RobotCellHouse$Points", "arrange", "()V"⟩, prog_9_method_8_code, 4, none, 0, 0, 7)
def mq_22 : xM := (⟨"RobotCellHouse$Points", "settle", "()V"⟩, prog_9_method_9_code, 4, none, 0, 0, 7)
def mq_23 : xM := (⟨"RobotCellHouse$Points", "reckon", "(I)I"⟩, prog_9_method_10_code, 3, (some .int), 0, 0, 7)
def mq_24 : xM := (⟨"RobotCellHouse$Reader", "<init>", "()V"⟩, prog_10_method_1_code, 1, none, 6, 8569, 8)
def mq_25 : xM := (⟨"RobotCellHouse$Shapes", "<init>", "()V"⟩, prog_11_method_1_code, 1, none, 11, 128, 9)
def mq_26 : xM := (⟨"RobotCellHouse$Task", "<init>", "(I)V"⟩, prog_12_method_1_code, 2, none, 5, 1840, 10)
def mq_27 : xM := (⟨"RobotCellHouse$Task", "vanish", "()V"⟩, prog_12_method_2_code, 1, none, 0, 0, 10)
def mq_28 : xM := (⟨"RobotCellHouse$Task", "begin", "(III)V"⟩, prog_12_method_3_code, 4, none, 0, 0, 10)
def mq_29 : xM := (⟨"RobotCellHouse$Task", "enter", "(I)Z"⟩, prog_12_method_5_code, 2, (some .boolean), 0, 0, 10)
def mq_30 : xM := (⟨"RobotCellHouse", "<init>", "()V"⟩, prog_1_method_1_code, 1, none, 274, 134763, 11)
def mq_31 : xM := (⟨"RobotCellHouse", "clear", "()V"⟩, prog_1_method_63_code, 2, none, 0, 0, 11)
def mq_32 : xM := (⟨"RobotCellHouse", "rewind", "()V"⟩, prog_1_method_64_code, 2, none, 0, 0, 11)
def mq_33 : xM := (⟨"RobotCellHouseModel", "<init>", "()V"⟩, prog_14_method_1_code, 1, none, 81, 1153349, 12)
def mq_34 : xM := (⟨"RobotCellHouseModel", "renew", "()V"⟩, prog_14_method_3_code, 2, none, 0, 0, 12)
def mq_35 : xM := (⟨"RobotCellHouseModel", "armAt", "(I)I"⟩, prog_14_method_4_code, 1, (some .int), 0, 0, 999)
def mq_36 : xM := (⟨"RobotCellHouseModel", "taskAt", "(I)I"⟩, prog_14_method_5_code, 1, (some .int), 0, 0, 999)
def mq_37 : xM := (⟨"RobotCellHouseModel", "times", "(JJ)J"⟩, prog_14_method_33_code, 12, (some .long), 0, 0, 999)
def mq_38 : xM := (⟨"RobotCellHouseModel", "series", "(JI)J"⟩, prog_14_method_34_code, 11, (some .long), 0, 0, 999)
def mq_39 : xM := (⟨"RobotCellHouseModel", "makeSines", "()V"⟩, prog_14_method_35_code, 4, none, 0, 0, 12)
def mq_40 : xM := (⟨"java/util/Arrays", "fill", "([II)V"⟩, prog_20_method_103_code, 4, none, 0, 0, 999)
def xJ : Nat → xM := (x_TI 19 (x_TI 9 (x_TI 4 (x_TI 1 (x_TI 0 (fun _ => mq_0) (fun _ => mq_1)) (x_TI 2 (fun _ => mq_2) (x_TI 3 (fun _ => mq_3) (fun _ => mq_4)))) (x_TI 6 (x_TI 5 (fun _ => mq_5) (fun _ => mq_6)) (x_TI 7 (fun _ => mq_7) (x_TI 8 (fun _ => mq_8) (fun _ => mq_9))))) (x_TI 14 (x_TI 11 (x_TI 10 (fun _ => mq_10) (fun _ => mq_11)) (x_TI 12 (fun _ => mq_12) (x_TI 13 (fun _ => mq_13) (fun _ => mq_14)))) (x_TI 16 (x_TI 15 (fun _ => mq_15) (fun _ => mq_16)) (x_TI 17 (fun _ => mq_17) (x_TI 18 (fun _ => mq_18) (fun _ => mq_19)))))) (x_TI 29 (x_TI 24 (x_TI 21 (x_TI 20 (fun _ => mq_20) (fun _ => mq_21)) (x_TI 22 (fun _ => mq_22) (x_TI 23 (fun _ => mq_23) (fun _ => mq_24)))) (x_TI 26 (x_TI 25 (fun _ => mq_25) (fun _ => mq_26)) (x_TI 27 (fun _ => mq_27) (x_TI 28 (fun _ => mq_28) (fun _ => mq_29))))) (x_TI 34 (x_TI 31 (x_TI 30 (fun _ => mq_30) (fun _ => mq_31)) (x_TI 32 (fun _ => mq_32) (x_TI 33 (fun _ => mq_33) (fun _ => mq_34)))) (x_TI 37 (x_TI 35 (fun _ => mq_35) (x_TI 36 (fun _ => mq_36) (fun _ => mq_37))) (x_TI 38 (fun _ => mq_38) (x_TI 39 (fun _ => mq_39) (fun _ => mq_40)))))))
end
-- part 49na
section
noncomputable section
def dl_1_0 : List (Nat × Instr × Nat) := [(0, .aload_n 0, 1), (1, .invokespecial 3, 3), (4, .aload_n 0, 1), (5, .bipush 6, 2), (7, .anewarray 9, 3), (10, .putfield 11, 3), (13, .aload_n 0, 1), (14, .bipush 8, 2), (16, .newarray .int, 2), (18, .putfield 17, 3), (21, .aload_n 0, 1), (22, .bipush 8, 2), (24, .newarray .int, 2), (26, .putfield 21, 3), (29, .aload_n 0, 1), (30, .bipush 7, 2), (32, .newarray .int, 2), (34, .putfield 24, 3), (37, .aload_n 0, 1), (38, .bipush 7, 2), (40, .newarray .int, 2), (42, .putfield 27, 3), (45, .aload_n 0, 1), (46, .bipush 7, 2), (48, .newarray .int, 2), (50, .putfield 30, 3), (53, .aload_n 0, 1), (54, .bipush 32, 2), (56, .newarray .int, 2), (58, .putfield 33, 3), (61, .aload_n 0, 1), (62, .new 36, 3), (65, .dup, 1), (66, .invokespecial 38, 3), (69, .putfield 39, 3), (72, .iconst 0, 1), (73, .istore_n 1, 1), (74, .iload_n 1, 1), (75, .bipush 6, 2), (77, .if_icmp .ge 22, 3), (80, .aload_n 0, 1), (81, .getfield 11, 3), (84, .iload_n 1, 1), (85, .new 9, 3), (88, .dup, 1), (89, .invokespecial 43, 3), (92, .aastore, 1), (93, .iinc 1 1, 3), (96, .goto (-22), 3), (99, .return_, 1)]
set_option maxRecDepth 20000 in
theorem dl_1_0_ok : dl_1_0.all (fun q => decide (decode prog_2_method_1_code q.1 = .ok (q.2.1, q.2.2))) = true := xa_g_ok (by decide +kernel)
def tb_1_0 : Nat → xE := (x_T 22 (x_T 10 (x_T 4 (x_T 0 (x_L 0 (0, xi_load 0 2 1, 0, 0)) (x_T 1 (x_L 1 (0, xi_oi 4, 0, 0)) (x_L 4 (0, xi_load 0 2 5, 0, 0)))) (x_T 5 (x_L 5 (0, xi_push (0, 6, 6) 7, 0, 0)) (x_T 7 (x_L 7 (0, xi_newa 5 5 (2, 0, 0) (xm_c mq_1) (xm_s mq_1) 10, 0, 0)) (x_L 10 (0, xi_putf 0 0 2 13, 0, 0))))) (x_T 16 (x_T 13 (x_L 13 (0, xi_load 0 2 14, 0, 0)) (x_T 14 (x_L 14 (0, xi_push (0, 8, 8) 16, 0, 0)) (x_L 16 (0, xi_newa 1 0 (0, 0, 0) (xm_c mq_1) (xm_s mq_1) 18, 0, 0)))) (x_T 18 (x_L 18 (0, xi_putf 0 1 2 21, 0, 0)) (x_T 21 (x_L 21 (0, xi_load 0 2 22, 0, 0)) (x_L 22 (0, xi_push (0, 8, 8) 24, 0, 0)))))) (x_T 34 (x_T 29 (x_T 24 (x_L 24 (0, xi_newa 1 0 (0, 0, 0) (xm_c mq_1) (xm_s mq_1) 26, 0, 0)) (x_T 26 (x_L 26 (0, xi_putf 0 2 2 29, 0, 0)) (x_L 29 (0, xi_load 0 2 30, 0, 0)))) (x_T 30 (x_L 30 (0, xi_push (0, 7, 7) 32, 0, 0)) (x_T 32 (x_L 32 (0, xi_newa 1 0 (0, 0, 0) (xm_c mq_1) (xm_s mq_1) 34, 0, 0)) (x_L 34 (0, xi_putf 0 3 2 37, 0, 0))))) (x_T 40 (x_T 37 (x_L 37 (0, xi_load 0 2 38, 0, 0)) (x_T 38 (x_L 38 (0, xi_push (0, 7, 7) 40, 0, 0)) (x_L 40 (0, xi_newa 1 0 (0, 0, 0) (xm_c mq_1) (xm_s mq_1) 42, 0, 0)))) (x_T 45 (x_T 42 (x_L 42 (0, xi_putf 0 4 2 45, 0, 0)) (x_L 45 (0, xi_load 0 2 46, 0, 0))) (x_T 46 (x_L 46 (0, xi_push (0, 7, 7) 48, 0, 0)) (x_L 48 (0, xi_newa 1 0 (0, 0, 0) (xm_c mq_1) (xm_s mq_1) 50, 0, 0)))))))
set_option maxRecDepth 20000 in
set_option maxHeartbeats 4000000 in
theorem tb_1_0_ok (K : xKx) (hK : x_KP K) : ∀ pc, x_EOq cls K xJ mq_1 pc (tb_1_0 pc) :=
  (x_Tok2
  (x_Tok2
  (x_Tok2
  (x_Tok2
  (x_Lok (x_st (I := xJ) (xr_aload_n (i := 0) (x_dk dl_1_0_ok 0 rfl))))
  (x_Tok2
  (x_Lok (x_st (I := xJ) (xr_oi (ix := 3) (in_t2 (List.mem_of_getElem? (i := 78) rfl) rfl) (in_t1 (List.mem_of_getElem? (i := 27) rfl) rfl) (in_t1 (List.mem_of_getElem? (i := 28) rfl) rfl) (x_dk dl_1_0_ok 1 rfl))))
  (x_Lok (x_st (I := xJ) (xr_aload_n (i := 0) (x_dk dl_1_0_ok 2 rfl))))))
  (x_Tok2
  (x_Lok (x_st (I := xJ) (xr_bipush (n := 6) (z := 6) (v := 6) (x_dk dl_1_0_ok 3 rfl) (by decide) (by decide))))
  (x_Tok2
  (x_Lok (x_st (I := xJ) (xr_newq (ci := 5) (ix := 9) (r := (RX5, TX5, 12)) rfl (in_t2 (List.mem_of_getElem? (i := 79) rfl) rfl) (fun U h => h.1.1) (x_dk dl_1_0_ok 4 rfl))))
  (x_Lok (x_st (I := xJ) (xr_putF (ci := 0) (k := 0) (ix := 11) (N := 20) (fk := 2) (C := RX0) (T := TX0) (ty0 := tyX0) (ty := .array (.object "RobotCellHouse$Joint")) rfl in_X0 tyX0_ok nmX0 (by decide) (in_t2 (List.mem_of_getElem? (i := 144) rfl) rfl) rfl rfl rfl rfl x_fit_arr (x_dk dl_1_0_ok 5 rfl)))))))
  (x_Tok2
  (x_Tok2
  (x_Lok (x_st (I := xJ) (xr_aload_n (i := 0) (x_dk dl_1_0_ok 6 rfl))))
  (x_Tok2
  (x_Lok (x_st (I := xJ) (xr_bipush (n := 8) (z := 8) (v := 8) (x_dk dl_1_0_ok 7 rfl) (by decide) (by decide))))
  (x_Lok (x_st (I := xJ) (xr_newa (kd := 1) (b := false) (ty := .int) rfl rfl (in_t1 (List.mem_of_getElem? (i := 64) rfl) rfl) (x_dk dl_1_0_ok 8 rfl))))))
  (x_Tok2
  (x_Lok (x_st (I := xJ) (xr_putF (ci := 0) (k := 1) (ix := 17) (N := 20) (fk := 2) (C := RX0) (T := TX0) (ty0 := tyX0) (ty := .array .int) rfl in_X0 tyX0_ok nmX0 (by decide) (in_t2 (List.mem_of_getElem? (i := 148) rfl) rfl) rfl rfl rfl rfl x_fit_arr (x_dk dl_1_0_ok 9 rfl))))
  (x_Tok2
  (x_Lok (x_st (I := xJ) (xr_aload_n (i := 0) (x_dk dl_1_0_ok 10 rfl))))
  (x_Lok (x_st (I := xJ) (xr_bipush (n := 8) (z := 8) (v := 8) (x_dk dl_1_0_ok 11 rfl) (by decide) (by decide))))))))
  (x_Tok2
  (x_Tok2
  (x_Tok2
  (x_Lok (x_st (I := xJ) (xr_newa (kd := 1) (b := false) (ty := .int) rfl rfl (in_t1 (List.mem_of_getElem? (i := 64) rfl) rfl) (x_dk dl_1_0_ok 12 rfl))))
  (x_Tok2
  (x_Lok (x_st (I := xJ) (xr_putF (ci := 0) (k := 2) (ix := 21) (N := 20) (fk := 2) (C := RX0) (T := TX0) (ty0 := tyX0) (ty := .array .int) rfl in_X0 tyX0_ok nmX0 (by decide) (in_t2 (List.mem_of_getElem? (i := 152) rfl) rfl) rfl rfl rfl rfl x_fit_arr (x_dk dl_1_0_ok 13 rfl))))
  (x_Lok (x_st (I := xJ) (xr_aload_n (i := 0) (x_dk dl_1_0_ok 14 rfl))))))
  (x_Tok2
  (x_Lok (x_st (I := xJ) (xr_bipush (n := 7) (z := 7) (v := 7) (x_dk dl_1_0_ok 15 rfl) (by decide) (by decide))))
  (x_Tok2
  (x_Lok (x_st (I := xJ) (xr_newa (kd := 1) (b := false) (ty := .int) rfl rfl (in_t1 (List.mem_of_getElem? (i := 64) rfl) rfl) (x_dk dl_1_0_ok 16 rfl))))
  (x_Lok (x_st (I := xJ) (xr_putF (ci := 0) (k := 3) (ix := 24) (N := 20) (fk := 2) (C := RX0) (T := TX0) (ty0 := tyX0) (ty := .array .int) rfl in_X0 tyX0_ok nmX0 (by decide) (in_t2 (List.mem_of_getElem? (i := 156) rfl) rfl) rfl rfl rfl rfl x_fit_arr (x_dk dl_1_0_ok 17 rfl)))))))
  (x_Tok2
  (x_Tok2
  (x_Lok (x_st (I := xJ) (xr_aload_n (i := 0) (x_dk dl_1_0_ok 18 rfl))))
  (x_Tok2
  (x_Lok (x_st (I := xJ) (xr_bipush (n := 7) (z := 7) (v := 7) (x_dk dl_1_0_ok 19 rfl) (by decide) (by decide))))
  (x_Lok (x_st (I := xJ) (xr_newa (kd := 1) (b := false) (ty := .int) rfl rfl (in_t1 (List.mem_of_getElem? (i := 64) rfl) rfl) (x_dk dl_1_0_ok 20 rfl))))))
  (x_Tok2
  (x_Tok2
  (x_Lok (x_st (I := xJ) (xr_putF (ci := 0) (k := 4) (ix := 27) (N := 20) (fk := 2) (C := RX0) (T := TX0) (ty0 := tyX0) (ty := .array .int) rfl in_X0 tyX0_ok nmX0 (by decide) (in_t2 (List.mem_of_getElem? (i := 158) rfl) rfl) rfl rfl rfl rfl x_fit_arr (x_dk dl_1_0_ok 21 rfl))))
  (x_Lok (x_st (I := xJ) (xr_aload_n (i := 0) (x_dk dl_1_0_ok 22 rfl)))))
  (x_Tok2
  (x_Lok (x_st (I := xJ) (xr_bipush (n := 7) (z := 7) (v := 7) (x_dk dl_1_0_ok 23 rfl) (by decide) (by decide))))
  (x_Lok (x_st (I := xJ) (xr_newa (kd := 1) (b := false) (ty := .int) rfl rfl (in_t1 (List.mem_of_getElem? (i := 64) rfl) rfl) (x_dk dl_1_0_ok 24 rfl)))))))))
def tb_1_25 : Nat → xE := (x_T 73 (x_T 61 (x_T 54 (x_T 50 (x_L 50 (0, xi_putf 0 5 2 53, 0, 0)) (x_T 53 (x_L 53 (0, xi_load 0 2 54, 0, 0)) (x_L 54 (0, xi_push (0, 32, 32) 56, 0, 0)))) (x_T 56 (x_L 56 (0, xi_newa 1 0 (0, 0, 0) (xm_c mq_1) (xm_s mq_1) 58, 0, 0)) (x_T 58 (x_L 58 (0, xi_putf 0 6 2 61, 0, 0)) (x_L 61 (0, xi_load 0 2 62, 0, 0))))) (x_T 66 (x_T 62 (x_L 62 (0, xi_new (x_nc 1 ks_X1) (xm_c mq_1) (xm_s mq_1) 65, 0, 0)) (x_T 65 (x_L 65 (0, xi_stk xf_dup 66, 0, 0)) (x_L 66 (2, x_nof, 7, 1)))) (x_T 69 (x_L 69 (0, xi_putf 0 7 2 72, 0, 0)) (x_T 72 (x_L 72 (0, xi_push (0, 0, 0) 73, 0, 0)) (x_L 73 (0, xi_stor 1 0 74, 0, 0)))))) (x_T 84 (x_T 77 (x_T 74 (x_L 74 (0, xi_load 1 0 75, 0, 0)) (x_T 75 (x_L 75 (0, xi_push (0, 6, 6) 77, 0, 0)) (x_L 77 (0, xi_if2 3 99 80, 0, 0)))) (x_T 80 (x_L 80 (0, xi_load 0 2 81, 0, 0)) (x_T 81 (x_L 81 (0, xi_getf 0 0 84, 0, 0)) (x_L 84 (0, xi_load 1 0 85, 0, 0))))) (x_T 89 (x_T 85 (x_L 85 (0, xi_new (x_nc 5 ks_X5) (xm_c mq_1) (xm_s mq_1) 88, 0, 0)) (x_T 88 (x_L 88 (0, xi_stk xf_dup 89, 0, 0)) (x_L 89 (2, x_nof, 16, 1)))) (x_T 93 (x_T 92 (x_L 92 (0, xi_aast 93, 0, 0)) (x_L 93 (0, xi_inc 1 1 96, 0, 0))) (x_T 96 (x_L 96 (0, xi_goto 74, 0, 0)) (x_L 99 (1, x_nof, 0, 0)))))))
set_option maxRecDepth 20000 in
set_option maxHeartbeats 4000000 in
theorem tb_1_25_ok (K : xKx) (hK : x_KP K) : ∀ pc, x_EOq cls K xJ mq_1 pc (tb_1_25 pc) :=
  (x_Tok2
  (x_Tok2
  (x_Tok2
  (x_Tok2
  (x_Lok (x_st (I := xJ) (xr_putF (ci := 0) (k := 5) (ix := 30) (N := 20) (fk := 2) (C := RX0) (T := TX0) (ty0 := tyX0) (ty := .array .int) rfl in_X0 tyX0_ok nmX0 (by decide) (in_t2 (List.mem_of_getElem? (i := 160) rfl) rfl) rfl rfl rfl rfl x_fit_arr (x_dk dl_1_0_ok 25 rfl))))
  (x_Tok2
  (x_Lok (x_st (I := xJ) (xr_aload_n (i := 0) (x_dk dl_1_0_ok 26 rfl))))
  (x_Lok (x_st (I := xJ) (xr_bipush (n := 32) (z := 32) (v := 32) (x_dk dl_1_0_ok 27 rfl) (by decide) (by decide))))))
  (x_Tok2
  (x_Lok (x_st (I := xJ) (xr_newa (kd := 1) (b := false) (ty := .int) rfl rfl (in_t1 (List.mem_of_getElem? (i := 64) rfl) rfl) (x_dk dl_1_0_ok 28 rfl))))
  (x_Tok2
  (x_Lok (x_st (I := xJ) (xr_putF (ci := 0) (k := 6) (ix := 33) (N := 20) (fk := 2) (C := RX0) (T := TX0) (ty0 := tyX0) (ty := .array .int) rfl in_X0 tyX0_ok nmX0 (by decide) (in_t2 (List.mem_of_getElem? (i := 162) rfl) rfl) rfl rfl rfl rfl x_fit_arr (x_dk dl_1_0_ok 29 rfl))))
  (x_Lok (x_st (I := xJ) (xr_aload_n (i := 0) (x_dk dl_1_0_ok 30 rfl)))))))
  (x_Tok2
  (x_Tok2
  (x_Lok (x_st (I := xJ) (xr_new (ci := 1) (ix := 36) (N := 5) (C := RX1) (T := TX1) (ty0 := tyX1) (ks := ks_X1) rfl in_X1 tyX1_ok (in_t2 (List.mem_of_getElem? (i := 81) rfl) rfl) (in_t1 (List.mem_of_getElem? (i := 36) rfl) rfl) (in_t1 (List.mem_of_getElem? (i := 3) rfl) rfl) rfl df_X1 (x_dk dl_1_0_ok 31 rfl))))
  (x_Tok2
  (x_Lok (x_st (I := xJ) (xr_dup (x_dk dl_1_0_ok 32 rfl))))
  (x_Lok (x_ca (I := xJ) (q' := mq_7) rfl (xr_callIN (q' := mq_7) (ix := 38) (n := 0) (host := "RobotCellHouse") (in_t1 (List.mem_of_getElem? (i := 39) rfl) rfl) good_w (in_t1 (List.mem_of_getElem? (i := 3) rfl) rfl) (List.mem_of_getElem? (i := 5) rfl) (in_t1 (List.mem_of_getElem? (i := 38) rfl) rfl) rfl rfl (by decide +kernel) (by decide +kernel) (by decide +kernel) (x_dk dl_1_0_ok 33 rfl))))))
  (x_Tok2
  (x_Lok (x_st (I := xJ) (xr_putf (ci := 0) (k := 7) (ix := 39) (N := 20) (fk := 2) (C := RX0) (T := TX0) (ty0 := tyX0) (ty := .object "RobotCellHouse$Code") rfl in_X0 tyX0_ok nmX0 (by decide) (in_t2 (List.mem_of_getElem? (i := 165) rfl) rfl) rfl rfl x_fit_obj (x_dk dl_1_0_ok 34 rfl))))
  (x_Tok2
  (x_Lok (x_st (I := xJ) (xr_iconst (n := 0) (z := 0) (v := 0) (x_dk dl_1_0_ok 35 rfl) (by decide) (by decide))))
  (x_Lok (x_st (I := xJ) (xr_istore_n (i := 1) (x_dk dl_1_0_ok 36 rfl) (by decide +kernel))))))))
  (x_Tok2
  (x_Tok2
  (x_Tok2
  (x_Lok (x_st (I := xJ) (xr_iload_n (i := 1) (x_dk dl_1_0_ok 37 rfl))))
  (x_Tok2
  (x_Lok (x_st (I := xJ) (xr_bipush (n := 6) (z := 6) (v := 6) (x_dk dl_1_0_ok 38 rfl) (by decide) (by decide))))
  (x_Lok (x_st (I := xJ) (xr_icmpge (off := 22) (tg := 99) (x_dk dl_1_0_ok 39 rfl) (by decide))))))
  (x_Tok2
  (x_Lok (x_st (I := xJ) (xr_aload_n (i := 0) (x_dk dl_1_0_ok 40 rfl))))
  (x_Tok2
  (x_Lok (x_st (I := xJ) (xr_getf (ci := 0) (k := 0) (ix := 11) (N := 20) (C := RX0) (T := TX0) rfl in_X0 (by decide) (in_t2 (List.mem_of_getElem? (i := 144) rfl) rfl) (x_dk dl_1_0_ok 41 rfl))))
  (x_Lok (x_st (I := xJ) (xr_iload_n (i := 1) (x_dk dl_1_0_ok 42 rfl)))))))
  (x_Tok2
  (x_Tok2
  (x_Lok (x_st (I := xJ) (xr_new (ci := 5) (ix := 9) (N := 12) (C := RX5) (T := TX5) (ty0 := tyX5) (ks := ks_X5) rfl in_X5 tyX5_ok (in_t2 (List.mem_of_getElem? (i := 79) rfl) rfl) (in_t2 (List.mem_of_getElem? (i := 83) rfl) rfl) (in_t1 (List.mem_of_getElem? (i := 9) rfl) rfl) rfl df_X5 (x_dk dl_1_0_ok 43 rfl))))
  (x_Tok2
  (x_Lok (x_st (I := xJ) (xr_dup (x_dk dl_1_0_ok 44 rfl))))
  (x_Lok (x_ca (I := xJ) (q' := mq_16) rfl (xr_callIN (q' := mq_16) (ix := 43) (n := 0) (host := "RobotCellHouse") (in_t2 (List.mem_of_getElem? (i := 86) rfl) rfl) good_w (in_t1 (List.mem_of_getElem? (i := 9) rfl) rfl) (List.mem_of_getElem? (i := 6) rfl) (in_t2 (List.mem_of_getElem? (i := 85) rfl) rfl) rfl rfl (by decide +kernel) (by decide +kernel) (by decide +kernel) (x_dk dl_1_0_ok 45 rfl))))))
  (x_Tok2
  (x_Tok2
  (x_Lok (x_st (I := xJ) (xr_aastore (x_dk dl_1_0_ok 46 rfl))))
  (x_Lok (x_st (I := xJ) (xr_iinc (i := 1) (n := 1) (x_dk dl_1_0_ok 47 rfl) (by decide +kernel) (by decide)))))
  (x_Tok2
  (x_Lok (x_st (I := xJ) (xr_goto (off := (-22)) (tg := 74) (x_dk dl_1_0_ok 48 rfl) (by decide))))
  (x_Lok (x_rt (I := xJ) (k := 0) ⟨(x_dk dl_1_0_ok 49 rfl), rfl⟩)))))))
def tb_1 : Nat → xE := (x_T 48 tb_1_0 tb_1_25)
theorem tb_1_ok (K : xKx) (hK : x_KP K) : ∀ pc, x_EOq cls K xJ mq_1 pc (tb_1 pc) := (x_Tok2 (tb_1_0_ok K hK) (tb_1_25_ok K hK))
def dl_2_0 : List (Nat × Instr × Nat) := [(0, .aload_n 0, 1), (1, .iconst 0, 1), (2, .putfield 44, 3), (5, .aload_n 0, 1), (6, .getfield 17, 3), (9, .iconst 0, 1), (10, .iload_n 1, 1), (11, .iastore, 1), (12, .aload_n 0, 1), (13, .getfield 21, 3), (16, .iconst 0, 1), (17, .iload_n 2, 1), (18, .iastore, 1), (19, .aload_n 0, 1), (20, .iload_n 3, 1), (21, .putfield 48, 3), (24, .aload_n 0, 1), (25, .iload 4, 2), (27, .putfield 51, 3), (30, .aload_n 0, 1), (31, .getfield 30, 3), (34, .iconst 0, 1), (35, .invokestatic 54, 3), (38, .aload_n 0, 1), (39, .getfield 39, 3), (42, .invokevirtual 60, 3), (45, .aload_n 0, 1), (46, .invokevirtual 63, 3), (49, .return_, 1)]
set_option maxRecDepth 20000 in
theorem dl_2_0_ok : dl_2_0.all (fun q => decide (decode prog_2_method_2_code q.1 = .ok (q.2.1, q.2.2))) = true := xa_g_ok (by decide +kernel)
def tb_2_0 : Nat → xE := (x_T 19 (x_T 10 (x_T 2 (x_T 0 (x_L 0 (0, xi_load 0 2 1, 0, 0)) (x_T 1 (x_L 1 (0, xi_push (0, 0, 0) 2, 0, 0)) (x_L 2 (0, xi_putf 0 8 0 5, 0, 0)))) (x_T 6 (x_T 5 (x_L 5 (0, xi_load 0 2 6, 0, 0)) (x_L 6 (0, xi_getf 0 1 9, 0, 0))) (x_T 9 (x_L 9 (0, xi_push (0, 0, 0) 10, 0, 0)) (x_L 10 (0, xi_load 1 0 11, 0, 0))))) (x_T 13 (x_T 11 (x_L 11 (0, xi_ast false 12, 0, 0)) (x_T 12 (x_L 12 (0, xi_load 0 2 13, 0, 0)) (x_L 13 (0, xi_getf 0 2 16, 0, 0)))) (x_T 17 (x_T 16 (x_L 16 (0, xi_push (0, 0, 0) 17, 0, 0)) (x_L 17 (0, xi_load 2 0 18, 0, 0))) (x_T 18 (x_L 18 (0, xi_ast false 19, 0, 0)) (x_L 19 (0, xi_load 0 2 20, 0, 0)))))) (x_T 31 (x_T 24 (x_T 20 (x_L 20 (0, xi_load 3 0 21, 0, 0)) (x_T 21 (x_L 21 (0, xi_putf 0 9 0 24, 0, 0)) (x_L 24 (0, xi_load 0 2 25, 0, 0)))) (x_T 27 (x_T 25 (x_L 25 (0, xi_load 4 0 27, 0, 0)) (x_L 27 (0, xi_putf 0 10 0 30, 0, 0))) (x_T 30 (x_L 30 (0, xi_load 0 2 31, 0, 0)) (x_L 31 (0, xi_getf 0 5 34, 0, 0))))) (x_T 39 (x_T 35 (x_T 34 (x_L 34 (0, xi_push (0, 0, 0) 35, 0, 0)) (x_L 35 (2, x_nof, 40, 2))) (x_T 38 (x_L 38 (0, xi_load 0 2 39, 0, 0)) (x_L 39 (0, xi_getf 0 7 42, 0, 0)))) (x_T 45 (x_T 42 (x_L 42 (2, x_nof, 8, 1)) (x_L 45 (0, xi_load 0 2 46, 0, 0))) (x_T 46 (x_L 46 (2, x_nof, 3, 1)) (x_L 49 (1, x_nof, 0, 0)))))))
set_option maxRecDepth 20000 in
set_option maxHeartbeats 4000000 in
theorem tb_2_0_ok (K : xKx) (hK : x_KP K) : ∀ pc, x_EOq cls K xJ mq_2 pc (tb_2_0 pc) :=
  (x_Tok2
  (x_Tok2
  (x_Tok2
  (x_Tok2
  (x_Lok (x_st (I := xJ) (xr_aload_n (i := 0) (x_dk dl_2_0_ok 0 rfl))))
  (x_Tok2
  (x_Lok (x_st (I := xJ) (xr_iconst (n := 0) (z := 0) (v := 0) (x_dk dl_2_0_ok 1 rfl) (by decide) (by decide))))
  (x_Lok (x_st (I := xJ) (xr_putf (ci := 0) (k := 8) (ix := 44) (N := 20) (fk := 0) (C := RX0) (T := TX0) (ty0 := tyX0) (ty := .int) rfl in_X0 tyX0_ok nmX0 (by decide) (in_t2 (List.mem_of_getElem? (i := 168) rfl) rfl) rfl rfl x_fit_int (x_dk dl_2_0_ok 2 rfl))))))
  (x_Tok2
  (x_Tok2
  (x_Lok (x_st (I := xJ) (xr_aload_n (i := 0) (x_dk dl_2_0_ok 3 rfl))))
  (x_Lok (x_st (I := xJ) (xr_getf (ci := 0) (k := 1) (ix := 17) (N := 20) (C := RX0) (T := TX0) rfl in_X0 (by decide) (in_t2 (List.mem_of_getElem? (i := 148) rfl) rfl) (x_dk dl_2_0_ok 4 rfl)))))
  (x_Tok2
  (x_Lok (x_st (I := xJ) (xr_iconst (n := 0) (z := 0) (v := 0) (x_dk dl_2_0_ok 5 rfl) (by decide) (by decide))))
  (x_Lok (x_st (I := xJ) (xr_iload_n (i := 1) (x_dk dl_2_0_ok 6 rfl)))))))
  (x_Tok2
  (x_Tok2
  (x_Lok (x_st (I := xJ) (xr_iastore (x_dk dl_2_0_ok 7 rfl))))
  (x_Tok2
  (x_Lok (x_st (I := xJ) (xr_aload_n (i := 0) (x_dk dl_2_0_ok 8 rfl))))
  (x_Lok (x_st (I := xJ) (xr_getf (ci := 0) (k := 2) (ix := 21) (N := 20) (C := RX0) (T := TX0) rfl in_X0 (by decide) (in_t2 (List.mem_of_getElem? (i := 152) rfl) rfl) (x_dk dl_2_0_ok 9 rfl))))))
  (x_Tok2
  (x_Tok2
  (x_Lok (x_st (I := xJ) (xr_iconst (n := 0) (z := 0) (v := 0) (x_dk dl_2_0_ok 10 rfl) (by decide) (by decide))))
  (x_Lok (x_st (I := xJ) (xr_iload_n (i := 2) (x_dk dl_2_0_ok 11 rfl)))))
  (x_Tok2
  (x_Lok (x_st (I := xJ) (xr_iastore (x_dk dl_2_0_ok 12 rfl))))
  (x_Lok (x_st (I := xJ) (xr_aload_n (i := 0) (x_dk dl_2_0_ok 13 rfl))))))))
  (x_Tok2
  (x_Tok2
  (x_Tok2
  (x_Lok (x_st (I := xJ) (xr_iload_n (i := 3) (x_dk dl_2_0_ok 14 rfl))))
  (x_Tok2
  (x_Lok (x_st (I := xJ) (xr_putf (ci := 0) (k := 9) (ix := 48) (N := 20) (fk := 0) (C := RX0) (T := TX0) (ty0 := tyX0) (ty := .int) rfl in_X0 tyX0_ok nmX0 (by decide) (in_t2 (List.mem_of_getElem? (i := 173) rfl) rfl) rfl rfl x_fit_int (x_dk dl_2_0_ok 15 rfl))))
  (x_Lok (x_st (I := xJ) (xr_aload_n (i := 0) (x_dk dl_2_0_ok 16 rfl))))))
  (x_Tok2
  (x_Tok2
  (x_Lok (x_st (I := xJ) (xr_iload (i := 4) (x_dk dl_2_0_ok 17 rfl))))
  (x_Lok (x_st (I := xJ) (xr_putf (ci := 0) (k := 10) (ix := 51) (N := 20) (fk := 0) (C := RX0) (T := TX0) (ty0 := tyX0) (ty := .int) rfl in_X0 tyX0_ok nmX0 (by decide) (in_t2 (List.mem_of_getElem? (i := 174) rfl) rfl) rfl rfl x_fit_int (x_dk dl_2_0_ok 18 rfl)))))
  (x_Tok2
  (x_Lok (x_st (I := xJ) (xr_aload_n (i := 0) (x_dk dl_2_0_ok 19 rfl))))
  (x_Lok (x_st (I := xJ) (xr_getf (ci := 0) (k := 5) (ix := 30) (N := 20) (C := RX0) (T := TX0) rfl in_X0 (by decide) (in_t2 (List.mem_of_getElem? (i := 160) rfl) rfl) (x_dk dl_2_0_ok 20 rfl)))))))
  (x_Tok2
  (x_Tok2
  (x_Tok2
  (x_Lok (x_st (I := xJ) (xr_iconst (n := 0) (z := 0) (v := 0) (x_dk dl_2_0_ok 21 rfl) (by decide) (by decide))))
  (x_Lok (x_ca (I := xJ) (q' := mq_40) rfl (xr_callS (q' := mq_40) (ix := 54) (n := 2) (in_t4 (List.mem_of_getElem? (i := 9) rfl) rfl) good_w (in_t1 (List.mem_of_getElem? (i := 13) rfl) rfl) (in_t4 (List.mem_of_getElem? (i := 7) rfl) rfl) (in_t4 (List.mem_of_getElem? (i := 8) rfl) rfl) (by decide +kernel) (by decide +kernel) (x_dk dl_2_0_ok 22 rfl)))))
  (x_Tok2
  (x_Lok (x_st (I := xJ) (xr_aload_n (i := 0) (x_dk dl_2_0_ok 23 rfl))))
  (x_Lok (x_st (I := xJ) (xr_getf (ci := 0) (k := 7) (ix := 39) (N := 20) (C := RX0) (T := TX0) rfl in_X0 (by decide) (in_t2 (List.mem_of_getElem? (i := 165) rfl) rfl) (x_dk dl_2_0_ok 24 rfl))))))
  (x_Tok2
  (x_Tok2
  (x_Lok (x_ca (I := xJ) (q' := mq_8) rfl (xr_callV (q' := mq_8) (ix := 60) (n := 0) (in_t4 (List.mem_of_getElem? (i := 13) rfl) rfl) good_w (in_t1 (List.mem_of_getElem? (i := 3) rfl) rfl) (in_t4 (List.mem_of_getElem? (i := 10) rfl) rfl) (in_t4 (List.mem_of_getElem? (i := 11) rfl) rfl) (in_t4 (List.mem_of_getElem? (i := 12) rfl) rfl) (by decide +kernel) (by decide +kernel) (by decide +kernel) (x_dk dl_2_0_ok 25 rfl))))
  (x_Lok (x_st (I := xJ) (xr_aload_n (i := 0) (x_dk dl_2_0_ok 26 rfl)))))
  (x_Tok2
  (x_Lok (x_ca (I := xJ) (q' := mq_3) rfl (xr_callV (q' := mq_3) (ix := 63) (n := 0) (in_t4 (List.mem_of_getElem? (i := 17) rfl) rfl) good_w (in_t1 (List.mem_of_getElem? (i := 8) rfl) rfl) (in_t4 (List.mem_of_getElem? (i := 14) rfl) rfl) (in_t4 (List.mem_of_getElem? (i := 15) rfl) rfl) (in_t4 (List.mem_of_getElem? (i := 16) rfl) rfl) (by decide +kernel) (by decide +kernel) (by decide +kernel) (x_dk dl_2_0_ok 27 rfl))))
  (x_Lok (x_rt (I := xJ) (k := 0) ⟨(x_dk dl_2_0_ok 28 rfl), rfl⟩)))))))
def tb_2 : Nat → xE := tb_2_0
theorem tb_2_ok (K : xKx) (hK : x_KP K) : ∀ pc, x_EOq cls K xJ mq_2 pc (tb_2 pc) := tb_2_0_ok K hK
def dl_3_0 : List (Nat × Instr × Nat) := [(0, .iconst 0, 1), (1, .istore_n 1, 1), (2, .iload_n 1, 1), (3, .bipush 6, 2), (5, .if_icmp .ge 29, 3), (8, .aload_n 0, 1), (9, .getfield 11, 3), (12, .iload_n 1, 1), (13, .aaload, 1), (14, .iconst 0, 1), (15, .putfield 90, 3), (18, .aload_n 0, 1), (19, .getfield 11, 3), (22, .iload_n 1, 1), (23, .aaload, 1), (24, .iconst 0, 1), (25, .putfield 93, 3), (28, .iinc 1 1, 3), (31, .goto (-29), 3), (34, .aload_n 0, 1), (35, .getfield 33, 3), (38, .iconst 0, 1), (39, .invokestatic 54, 3), (42, .aload_n 0, 1), (43, .invokevirtual 96, 3), (46, .aload_n 0, 1), (47, .iconst (-1), 1), (48, .putfield 99, 3), (51, .aload_n 0, 1), (52, .iconst 0, 1), (53, .putfield 102, 3), (56, .aload_n 0, 1), (57, .iconst (-1), 1), (58, .putfield 105, 3), (61, .aload_n 0, 1), (62, .iconst (-1), 1), (63, .putfield 108, 3), (66, .aload_n 0, 1), (67, .iconst 0, 1), (68, .putfield 111, 3), (71, .aload_n 0, 1), (72, .invokevirtual 87, 3), (75, .aload_n 0, 1), (76, .invokevirtual 114, 3), (79, .return_, 1)]
set_option maxRecDepth 20000 in
theorem dl_3_0_ok : dl_3_0.all (fun q => decide (decode prog_2_method_4_code q.1 = .ok (q.2.1, q.2.2))) = true := xa_g_ok (by decide +kernel)
def tb_3_0 : Nat → xE := (x_T 15 (x_T 5 (x_T 1 (x_T 0 (x_L 0 (0, xi_push (0, 0, 0) 1, 0, 0)) (x_L 1 (0, xi_stor 1 0 2, 0, 0))) (x_T 2 (x_L 2 (0, xi_load 1 0 3, 0, 0)) (x_T 3 (x_L 3 (0, xi_push (0, 6, 6) 5, 0, 0)) (x_L 5 (0, xi_if2 3 34 8, 0, 0))))) (x_T 12 (x_T 8 (x_L 8 (0, xi_load 0 2 9, 0, 0)) (x_T 9 (x_L 9 (0, xi_getf 0 0 12, 0, 0)) (x_L 12 (0, xi_load 1 0 13, 0, 0)))) (x_T 13 (x_L 13 (0, xi_aald 14, 0, 0)) (x_T 14 (x_L 14 (0, xi_push (0, 0, 0) 15, 0, 0)) (x_L 15 (0, xi_putf 5 7 0 18, 0, 0)))))) (x_T 24 (x_T 19 (x_T 18 (x_L 18 (0, xi_load 0 2 19, 0, 0)) (x_L 19 (0, xi_getf 0 0 22, 0, 0))) (x_T 22 (x_L 22 (0, xi_load 1 0 23, 0, 0)) (x_T 23 (x_L 23 (0, xi_aald 24, 0, 0)) (x_L 24 (0, xi_push (0, 0, 0) 25, 0, 0))))) (x_T 31 (x_T 25 (x_L 25 (0, xi_putf 5 9 0 28, 0, 0)) (x_T 28 (x_L 28 (0, xi_inc 1 1 31, 0, 0)) (x_L 31 (0, xi_goto 2, 0, 0)))) (x_T 34 (x_L 34 (0, xi_load 0 2 35, 0, 0)) (x_T 35 (x_L 35 (0, xi_getf 0 6 38, 0, 0)) (x_L 38 (0, xi_push (0, 0, 0) 39, 0, 0)))))))
set_option maxRecDepth 20000 in
set_option maxHeartbeats 4000000 in
theorem tb_3_0_ok (K : xKx) (hK : x_KP K) : ∀ pc, x_EOq cls K xJ mq_3 pc (tb_3_0 pc) :=
  (x_Tok2
  (x_Tok2
  (x_Tok2
  (x_Tok2
  (x_Lok (x_st (I := xJ) (xr_iconst (n := 0) (z := 0) (v := 0) (x_dk dl_3_0_ok 0 rfl) (by decide) (by decide))))
  (x_Lok (x_st (I := xJ) (xr_istore_n (i := 1) (x_dk dl_3_0_ok 1 rfl) (by decide +kernel)))))
  (x_Tok2
  (x_Lok (x_st (I := xJ) (xr_iload_n (i := 1) (x_dk dl_3_0_ok 2 rfl))))
  (x_Tok2
  (x_Lok (x_st (I := xJ) (xr_bipush (n := 6) (z := 6) (v := 6) (x_dk dl_3_0_ok 3 rfl) (by decide) (by decide))))
  (x_Lok (x_st (I := xJ) (xr_icmpge (off := 29) (tg := 34) (x_dk dl_3_0_ok 4 rfl) (by decide)))))))
  (x_Tok2
  (x_Tok2
  (x_Lok (x_st (I := xJ) (xr_aload_n (i := 0) (x_dk dl_3_0_ok 5 rfl))))
  (x_Tok2
  (x_Lok (x_st (I := xJ) (xr_getf (ci := 0) (k := 0) (ix := 11) (N := 20) (C := RX0) (T := TX0) rfl in_X0 (by decide) (in_t2 (List.mem_of_getElem? (i := 144) rfl) rfl) (x_dk dl_3_0_ok 6 rfl))))
  (x_Lok (x_st (I := xJ) (xr_iload_n (i := 1) (x_dk dl_3_0_ok 7 rfl))))))
  (x_Tok2
  (x_Lok (x_st (I := xJ) (xr_aaload (x_dk dl_3_0_ok 8 rfl))))
  (x_Tok2
  (x_Lok (x_st (I := xJ) (xr_iconst (n := 0) (z := 0) (v := 0) (x_dk dl_3_0_ok 9 rfl) (by decide) (by decide))))
  (x_Lok (x_st (I := xJ) (xr_putf (ci := 5) (k := 7) (ix := 90) (N := 12) (fk := 0) (C := RX5) (T := TX5) (ty0 := tyX5) (ty := .int) rfl in_X5 tyX5_ok nmX5 (by decide) (in_t2 (List.mem_of_getElem? (i := 105) rfl) rfl) rfl rfl x_fit_int (x_dk dl_3_0_ok 10 rfl))))))))
  (x_Tok2
  (x_Tok2
  (x_Tok2
  (x_Lok (x_st (I := xJ) (xr_aload_n (i := 0) (x_dk dl_3_0_ok 11 rfl))))
  (x_Lok (x_st (I := xJ) (xr_getf (ci := 0) (k := 0) (ix := 11) (N := 20) (C := RX0) (T := TX0) rfl in_X0 (by decide) (in_t2 (List.mem_of_getElem? (i := 144) rfl) rfl) (x_dk dl_3_0_ok 12 rfl)))))
  (x_Tok2
  (x_Lok (x_st (I := xJ) (xr_iload_n (i := 1) (x_dk dl_3_0_ok 13 rfl))))
  (x_Tok2
  (x_Lok (x_st (I := xJ) (xr_aaload (x_dk dl_3_0_ok 14 rfl))))
  (x_Lok (x_st (I := xJ) (xr_iconst (n := 0) (z := 0) (v := 0) (x_dk dl_3_0_ok 15 rfl) (by decide) (by decide)))))))
  (x_Tok2
  (x_Tok2
  (x_Lok (x_st (I := xJ) (xr_putf (ci := 5) (k := 9) (ix := 93) (N := 12) (fk := 0) (C := RX5) (T := TX5) (ty0 := tyX5) (ty := .int) rfl in_X5 tyX5_ok nmX5 (by decide) (in_t2 (List.mem_of_getElem? (i := 112) rfl) rfl) rfl rfl x_fit_int (x_dk dl_3_0_ok 16 rfl))))
  (x_Tok2
  (x_Lok (x_st (I := xJ) (xr_iinc (i := 1) (n := 1) (x_dk dl_3_0_ok 17 rfl) (by decide +kernel) (by decide))))
  (x_Lok (x_st (I := xJ) (xr_goto (off := (-29)) (tg := 2) (x_dk dl_3_0_ok 18 rfl) (by decide))))))
  (x_Tok2
  (x_Lok (x_st (I := xJ) (xr_aload_n (i := 0) (x_dk dl_3_0_ok 19 rfl))))
  (x_Tok2
  (x_Lok (x_st (I := xJ) (xr_getf (ci := 0) (k := 6) (ix := 33) (N := 20) (C := RX0) (T := TX0) rfl in_X0 (by decide) (in_t2 (List.mem_of_getElem? (i := 162) rfl) rfl) (x_dk dl_3_0_ok 20 rfl))))
  (x_Lok (x_st (I := xJ) (xr_iconst (n := 0) (z := 0) (v := 0) (x_dk dl_3_0_ok 21 rfl) (by decide) (by decide)))))))))
def tb_3_22 : Nat → xE := (x_T 57 (x_T 47 (x_T 42 (x_T 39 (x_L 39 (2, x_nof, 40, 2)) (x_L 42 (0, xi_load 0 2 43, 0, 0))) (x_T 43 (x_L 43 (2, x_nof, 6, 1)) (x_T 46 (x_L 46 (0, xi_load 0 2 47, 0, 0)) (x_L 47 (0, xi_push (0, (-1), (-1)) 48, 0, 0))))) (x_T 52 (x_T 48 (x_L 48 (0, xi_putf 0 14 0 51, 0, 0)) (x_T 51 (x_L 51 (0, xi_load 0 2 52, 0, 0)) (x_L 52 (0, xi_push (0, 0, 0) 53, 0, 0)))) (x_T 53 (x_L 53 (0, xi_putf 0 15 0 56, 0, 0)) (x_T 56 (x_L 56 (0, xi_load 0 2 57, 0, 0)) (x_L 57 (0, xi_push (0, (-1), (-1)) 58, 0, 0)))))) (x_T 67 (x_T 62 (x_T 58 (x_L 58 (0, xi_putf 0 16 0 61, 0, 0)) (x_T 61 (x_L 61 (0, xi_load 0 2 62, 0, 0)) (x_L 62 (0, xi_push (0, (-1), (-1)) 63, 0, 0)))) (x_T 63 (x_L 63 (0, xi_putf 0 17 0 66, 0, 0)) (x_T 66 (x_L 66 (0, xi_load 0 2 67, 0, 0)) (x_L 67 (0, xi_push (0, 0, 0) 68, 0, 0))))) (x_T 72 (x_T 68 (x_L 68 (0, xi_putf 0 19 0 71, 0, 0)) (x_T 71 (x_L 71 (0, xi_load 0 2 72, 0, 0)) (x_L 72 (2, x_nof, 4, 1)))) (x_T 75 (x_L 75 (0, xi_load 0 2 76, 0, 0)) (x_T 76 (x_L 76 (2, x_nof, 5, 1)) (x_L 79 (1, x_nof, 0, 0)))))))
set_option maxRecDepth 20000 in
set_option maxHeartbeats 4000000 in
theorem tb_3_22_ok (K : xKx) (hK : x_KP K) : ∀ pc, x_EOq cls K xJ mq_3 pc (tb_3_22 pc) :=
  (x_Tok2
  (x_Tok2
  (x_Tok2
  (x_Tok2
  (x_Lok (x_ca (I := xJ) (q' := mq_40) rfl (xr_callS (q' := mq_40) (ix := 54) (n := 2) (in_t4 (List.mem_of_getElem? (i := 9) rfl) rfl) good_w (in_t1 (List.mem_of_getElem? (i := 13) rfl) rfl) (in_t4 (List.mem_of_getElem? (i := 7) rfl) rfl) (in_t4 (List.mem_of_getElem? (i := 8) rfl) rfl) (by decide +kernel) (by decide +kernel) (x_dk dl_3_0_ok 22 rfl))))
  (x_Lok (x_st (I := xJ) (xr_aload_n (i := 0) (x_dk dl_3_0_ok 23 rfl)))))
  (x_Tok2
  (x_Lok (x_ca (I := xJ) (q' := mq_6) rfl (xr_callV (q' := mq_6) (ix := 96) (n := 0) (in_t4 (List.mem_of_getElem? (i := 21) rfl) rfl) good_w (in_t1 (List.mem_of_getElem? (i := 8) rfl) rfl) (in_t4 (List.mem_of_getElem? (i := 18) rfl) rfl) (in_t4 (List.mem_of_getElem? (i := 19) rfl) rfl) (in_t4 (List.mem_of_getElem? (i := 20) rfl) rfl) (by decide +kernel) (by decide +kernel) (by decide +kernel) (x_dk dl_3_0_ok 24 rfl))))
  (x_Tok2
  (x_Lok (x_st (I := xJ) (xr_aload_n (i := 0) (x_dk dl_3_0_ok 25 rfl))))
  (x_Lok (x_st (I := xJ) (xr_iconst (n := (-1)) (z := (-1)) (v := (-1)) (x_dk dl_3_0_ok 26 rfl) (by decide) (by decide)))))))
  (x_Tok2
  (x_Tok2
  (x_Lok (x_st (I := xJ) (xr_putf (ci := 0) (k := 14) (ix := 99) (N := 20) (fk := 0) (C := RX0) (T := TX0) (ty0 := tyX0) (ty := .int) rfl in_X0 tyX0_ok nmX0 (by decide) (in_t2 (List.mem_of_getElem? (i := 183) rfl) rfl) rfl rfl x_fit_int (x_dk dl_3_0_ok 27 rfl))))
  (x_Tok2
  (x_Lok (x_st (I := xJ) (xr_aload_n (i := 0) (x_dk dl_3_0_ok 28 rfl))))
  (x_Lok (x_st (I := xJ) (xr_iconst (n := 0) (z := 0) (v := 0) (x_dk dl_3_0_ok 29 rfl) (by decide) (by decide))))))
  (x_Tok2
  (x_Lok (x_st (I := xJ) (xr_putf (ci := 0) (k := 15) (ix := 102) (N := 20) (fk := 0) (C := RX0) (T := TX0) (ty0 := tyX0) (ty := .int) rfl in_X0 tyX0_ok nmX0 (by decide) (in_t2 (List.mem_of_getElem? (i := 187) rfl) rfl) rfl rfl x_fit_int (x_dk dl_3_0_ok 30 rfl))))
  (x_Tok2
  (x_Lok (x_st (I := xJ) (xr_aload_n (i := 0) (x_dk dl_3_0_ok 31 rfl))))
  (x_Lok (x_st (I := xJ) (xr_iconst (n := (-1)) (z := (-1)) (v := (-1)) (x_dk dl_3_0_ok 32 rfl) (by decide) (by decide))))))))
  (x_Tok2
  (x_Tok2
  (x_Tok2
  (x_Lok (x_st (I := xJ) (xr_putf (ci := 0) (k := 16) (ix := 105) (N := 20) (fk := 0) (C := RX0) (T := TX0) (ty0 := tyX0) (ty := .int) rfl in_X0 tyX0_ok nmX0 (by decide) (in_t2 (List.mem_of_getElem? (i := 189) rfl) rfl) rfl rfl x_fit_int (x_dk dl_3_0_ok 33 rfl))))
  (x_Tok2
  (x_Lok (x_st (I := xJ) (xr_aload_n (i := 0) (x_dk dl_3_0_ok 34 rfl))))
  (x_Lok (x_st (I := xJ) (xr_iconst (n := (-1)) (z := (-1)) (v := (-1)) (x_dk dl_3_0_ok 35 rfl) (by decide) (by decide))))))
  (x_Tok2
  (x_Lok (x_st (I := xJ) (xr_putf (ci := 0) (k := 17) (ix := 108) (N := 20) (fk := 0) (C := RX0) (T := TX0) (ty0 := tyX0) (ty := .int) rfl in_X0 tyX0_ok nmX0 (by decide) (in_t2 (List.mem_of_getElem? (i := 193) rfl) rfl) rfl rfl x_fit_int (x_dk dl_3_0_ok 36 rfl))))
  (x_Tok2
  (x_Lok (x_st (I := xJ) (xr_aload_n (i := 0) (x_dk dl_3_0_ok 37 rfl))))
  (x_Lok (x_st (I := xJ) (xr_iconst (n := 0) (z := 0) (v := 0) (x_dk dl_3_0_ok 38 rfl) (by decide) (by decide)))))))
  (x_Tok2
  (x_Tok2
  (x_Lok (x_st (I := xJ) (xr_putf (ci := 0) (k := 19) (ix := 111) (N := 20) (fk := 0) (C := RX0) (T := TX0) (ty0 := tyX0) (ty := .int) rfl in_X0 tyX0_ok nmX0 (by decide) (in_t2 (List.mem_of_getElem? (i := 200) rfl) rfl) rfl rfl x_fit_int (x_dk dl_3_0_ok 39 rfl))))
  (x_Tok2
  (x_Lok (x_st (I := xJ) (xr_aload_n (i := 0) (x_dk dl_3_0_ok 40 rfl))))
  (x_Lok (x_ca (I := xJ) (q' := mq_4) rfl (xr_callV (q' := mq_4) (ix := 87) (n := 0) (in_t4 (List.mem_of_getElem? (i := 25) rfl) rfl) good_w (in_t1 (List.mem_of_getElem? (i := 8) rfl) rfl) (in_t4 (List.mem_of_getElem? (i := 22) rfl) rfl) (in_t4 (List.mem_of_getElem? (i := 23) rfl) rfl) (in_t4 (List.mem_of_getElem? (i := 24) rfl) rfl) (by decide +kernel) (by decide +kernel) (by decide +kernel) (x_dk dl_3_0_ok 41 rfl))))))
  (x_Tok2
  (x_Lok (x_st (I := xJ) (xr_aload_n (i := 0) (x_dk dl_3_0_ok 42 rfl))))
  (x_Tok2
  (x_Lok (x_ca (I := xJ) (q' := mq_5) rfl (xr_callV (q' := mq_5) (ix := 114) (n := 0) (in_t4 (List.mem_of_getElem? (i := 39) rfl) rfl) good_w (in_t1 (List.mem_of_getElem? (i := 8) rfl) rfl) (in_t4 (List.mem_of_getElem? (i := 36) rfl) rfl) (in_t4 (List.mem_of_getElem? (i := 37) rfl) rfl) (in_t4 (List.mem_of_getElem? (i := 38) rfl) rfl) (by decide +kernel) (by decide +kernel) (by decide +kernel) (x_dk dl_3_0_ok 43 rfl))))
  (x_Lok (x_rt (I := xJ) (k := 0) ⟨(x_dk dl_3_0_ok 44 rfl), rfl⟩)))))))
def tb_3 : Nat → xE := (x_T 38 tb_3_0 tb_3_22)
theorem tb_3_ok (K : xKx) (hK : x_KP K) : ∀ pc, x_EOq cls K xJ mq_3 pc (tb_3 pc) := (x_Tok2 (tb_3_0_ok K hK) (tb_3_22_ok K hK))
def dl_4_0 : List (Nat × Instr × Nat) := [(0, .aload_n 0, 1), (1, .getfield 17, 3), (4, .iconst 0, 1), (5, .iaload, 1), (6, .i2l, 1), (7, .bipush 20, 2), (9, .lshl, 1), (10, .lstore_n 1, 1), (11, .aload_n 0, 1), (12, .getfield 21, 3), (15, .iconst 0, 1), (16, .iaload, 1), (17, .i2l, 1), (18, .bipush 20, 2), (20, .lshl, 1), (21, .lstore_n 3, 1), (22, .aload_n 0, 1), (23, .getfield 48, 3), (26, .istore 5, 2), (28, .iconst 0, 1), (29, .istore 6, 2), (31, .iload 6, 2), (33, .aload_n 0, 1), (34, .getfield 44, 3), (37, .if_icmp .ge 129, 3), (166, .aload_n 0, 1), (167, .getfield 17, 3), (170, .aload_n 0, 1), (171, .getfield 44, 3), (174, .iconst 1, 1), (175, .iadd, 1), (176, .aload_n 0, 1), (177, .getfield 17, 3), (180, .aload_n 0, 1), (181, .getfield 44, 3), (184, .iaload, 1), (185, .iastore, 1), (186, .aload_n 0, 1), (187, .getfield 21, 3), (190, .aload_n 0, 1), (191, .getfield 44, 3), (194, .iconst 1, 1), (195, .iadd, 1), (196, .aload_n 0, 1), (197, .getfield 21, 3), (200, .aload_n 0, 1), (201, .getfield 44, 3), (204, .iaload, 1), (205, .iastore, 1), (206, .return_, 1)]
set_option maxRecDepth 20000 in
theorem dl_4_0_ok : dl_4_0.all (fun q => decide (decode prog_2_method_11_code q.1 = .ok (q.2.1, q.2.2))) = true := xa_g_ok (by decide +kernel)
def tb_4_0 : Nat → xE := (x_T 16 (x_T 7 (x_T 4 (x_T 0 (x_L 0 (0, xi_load 0 2 1, 0, 0)) (x_T 1 (x_L 1 (0, xi_getf 0 1 4, 0, 0)) (x_L 4 (0, xi_push (0, 0, 0) 5, 0, 0)))) (x_T 5 (x_L 5 (0, xi_ald false 6, 0, 0)) (x_T 6 (x_L 6 (0, xi_i2l 7, 0, 0)) (x_L 7 (0, xi_push (0, 20, 20) 9, 0, 0))))) (x_T 11 (x_T 9 (x_L 9 (0, xi_shL xF_anyL 10, 0, 0)) (x_T 10 (x_L 10 (0, xi_stor 1 1 11, 0, 0)) (x_L 11 (0, xi_load 0 2 12, 0, 0)))) (x_T 12 (x_L 12 (0, xi_getf 0 2 15, 0, 0)) (x_T 15 (x_L 15 (0, xi_push (0, 0, 0) 16, 0, 0)) (x_L 16 (0, xi_ald false 17, 0, 0)))))) (x_T 23 (x_T 20 (x_T 17 (x_L 17 (0, xi_i2l 18, 0, 0)) (x_T 18 (x_L 18 (0, xi_push (0, 20, 20) 20, 0, 0)) (x_L 20 (0, xi_shL xF_anyL 21, 0, 0)))) (x_T 21 (x_L 21 (0, xi_stor 3 1 22, 0, 0)) (x_T 22 (x_L 22 (0, xi_load 0 2 23, 0, 0)) (x_L 23 (0, xi_getf 0 9 26, 0, 0))))) (x_T 29 (x_T 26 (x_L 26 (0, xi_stor 5 0 28, 0, 0)) (x_T 28 (x_L 28 (0, xi_push (0, 0, 0) 29, 0, 0)) (x_L 29 (0, xi_stor 6 0 31, 0, 0)))) (x_T 33 (x_T 31 (x_L 31 (0, xi_load 6 0 33, 0, 0)) (x_L 33 (0, xi_load 0 2 34, 0, 0))) (x_T 34 (x_L 34 (0, xi_getf 0 8 37, 0, 0)) (x_L 37 (0, xi_if2 3 166 40, 0, 0)))))))
set_option maxRecDepth 20000 in
set_option maxHeartbeats 4000000 in
theorem tb_4_0_ok (K : xKx) (hK : x_KP K) : ∀ pc, x_EOq cls K xJ mq_4 pc (tb_4_0 pc) :=
  (x_Tok2
  (x_Tok2
  (x_Tok2
  (x_Tok2
  (x_Lok (x_st (I := xJ) (xr_aload_n (i := 0) (x_dk dl_4_0_ok 0 rfl))))
  (x_Tok2
  (x_Lok (x_st (I := xJ) (xr_getf (ci := 0) (k := 1) (ix := 17) (N := 20) (C := RX0) (T := TX0) rfl in_X0 (by decide) (in_t2 (List.mem_of_getElem? (i := 148) rfl) rfl) (x_dk dl_4_0_ok 1 rfl))))
  (x_Lok (x_st (I := xJ) (xr_iconst (n := 0) (z := 0) (v := 0) (x_dk dl_4_0_ok 2 rfl) (by decide) (by decide))))))
  (x_Tok2
  (x_Lok (x_st (I := xJ) (xr_iaload (x_dk dl_4_0_ok 3 rfl))))
  (x_Tok2
  (x_Lok (x_st (I := xJ) (xr_i2l (x_dk dl_4_0_ok 4 rfl))))
  (x_Lok (x_st (I := xJ) (xr_bipush (n := 20) (z := 20) (v := 20) (x_dk dl_4_0_ok 5 rfl) (by decide) (by decide)))))))
  (x_Tok2
  (x_Tok2
  (x_Lok (x_st (I := xJ) (xr_lshl (x_dk dl_4_0_ok 6 rfl))))
  (x_Tok2
  (x_Lok (x_st (I := xJ) (xr_lstore_n (i := 1) (x_dk dl_4_0_ok 7 rfl) (by decide +kernel))))
  (x_Lok (x_st (I := xJ) (xr_aload_n (i := 0) (x_dk dl_4_0_ok 8 rfl))))))
  (x_Tok2
  (x_Lok (x_st (I := xJ) (xr_getf (ci := 0) (k := 2) (ix := 21) (N := 20) (C := RX0) (T := TX0) rfl in_X0 (by decide) (in_t2 (List.mem_of_getElem? (i := 152) rfl) rfl) (x_dk dl_4_0_ok 9 rfl))))
  (x_Tok2
  (x_Lok (x_st (I := xJ) (xr_iconst (n := 0) (z := 0) (v := 0) (x_dk dl_4_0_ok 10 rfl) (by decide) (by decide))))
  (x_Lok (x_st (I := xJ) (xr_iaload (x_dk dl_4_0_ok 11 rfl))))))))
  (x_Tok2
  (x_Tok2
  (x_Tok2
  (x_Lok (x_st (I := xJ) (xr_i2l (x_dk dl_4_0_ok 12 rfl))))
  (x_Tok2
  (x_Lok (x_st (I := xJ) (xr_bipush (n := 20) (z := 20) (v := 20) (x_dk dl_4_0_ok 13 rfl) (by decide) (by decide))))
  (x_Lok (x_st (I := xJ) (xr_lshl (x_dk dl_4_0_ok 14 rfl))))))
  (x_Tok2
  (x_Lok (x_st (I := xJ) (xr_lstore_n (i := 3) (x_dk dl_4_0_ok 15 rfl) (by decide +kernel))))
  (x_Tok2
  (x_Lok (x_st (I := xJ) (xr_aload_n (i := 0) (x_dk dl_4_0_ok 16 rfl))))
  (x_Lok (x_st (I := xJ) (xr_getf (ci := 0) (k := 9) (ix := 48) (N := 20) (C := RX0) (T := TX0) rfl in_X0 (by decide) (in_t2 (List.mem_of_getElem? (i := 173) rfl) rfl) (x_dk dl_4_0_ok 17 rfl)))))))
  (x_Tok2
  (x_Tok2
  (x_Lok (x_st (I := xJ) (xr_istore (i := 5) (x_dk dl_4_0_ok 18 rfl) (by decide +kernel))))
  (x_Tok2
  (x_Lok (x_st (I := xJ) (xr_iconst (n := 0) (z := 0) (v := 0) (x_dk dl_4_0_ok 19 rfl) (by decide) (by decide))))
  (x_Lok (x_st (I := xJ) (xr_istore (i := 6) (x_dk dl_4_0_ok 20 rfl) (by decide +kernel))))))
  (x_Tok2
  (x_Tok2
  (x_Lok (x_st (I := xJ) (xr_iload (i := 6) (x_dk dl_4_0_ok 21 rfl))))
  (x_Lok (x_st (I := xJ) (xr_aload_n (i := 0) (x_dk dl_4_0_ok 22 rfl)))))
  (x_Tok2
  (x_Lok (x_st (I := xJ) (xr_getf (ci := 0) (k := 8) (ix := 44) (N := 20) (C := RX0) (T := TX0) rfl in_X0 (by decide) (in_t2 (List.mem_of_getElem? (i := 168) rfl) rfl) (x_dk dl_4_0_ok 23 rfl))))
  (x_Lok (x_st (I := xJ) (xr_icmpge (off := 129) (tg := 166) (x_dk dl_4_0_ok 24 rfl) (by decide)))))))))
def tb_4_25 : Nat → xE := (x_T 185 (x_T 175 (x_T 170 (x_T 166 (x_L 166 (0, xi_load 0 2 167, 0, 0)) (x_T 167 (x_L 167 (0, xi_getf 0 1 170, 0, 0)) (x_L 170 (0, xi_load 0 2 171, 0, 0)))) (x_T 171 (x_L 171 (0, xi_getf 0 8 174, 0, 0)) (x_T 174 (x_L 174 (0, xi_push (0, 1, 1) 175, 0, 0)) (x_L 175 (0, xi_bin xF_add 176, 0, 0))))) (x_T 180 (x_T 176 (x_L 176 (0, xi_load 0 2 177, 0, 0)) (x_T 177 (x_L 177 (0, xi_getf 0 1 180, 0, 0)) (x_L 180 (0, xi_load 0 2 181, 0, 0)))) (x_T 181 (x_L 181 (0, xi_getf 0 8 184, 0, 0)) (x_T 184 (x_L 184 (0, xi_ald false 185, 0, 0)) (x_L 185 (0, xi_ast false 186, 0, 0)))))) (x_T 195 (x_T 190 (x_T 186 (x_L 186 (0, xi_load 0 2 187, 0, 0)) (x_T 187 (x_L 187 (0, xi_getf 0 2 190, 0, 0)) (x_L 190 (0, xi_load 0 2 191, 0, 0)))) (x_T 191 (x_L 191 (0, xi_getf 0 8 194, 0, 0)) (x_T 194 (x_L 194 (0, xi_push (0, 1, 1) 195, 0, 0)) (x_L 195 (0, xi_bin xF_add 196, 0, 0))))) (x_T 200 (x_T 196 (x_L 196 (0, xi_load 0 2 197, 0, 0)) (x_T 197 (x_L 197 (0, xi_getf 0 2 200, 0, 0)) (x_L 200 (0, xi_load 0 2 201, 0, 0)))) (x_T 204 (x_T 201 (x_L 201 (0, xi_getf 0 8 204, 0, 0)) (x_L 204 (0, xi_ald false 205, 0, 0))) (x_T 205 (x_L 205 (0, xi_ast false 206, 0, 0)) (x_L 206 (1, x_nof, 0, 0)))))))
set_option maxRecDepth 20000 in
set_option maxHeartbeats 4000000 in
theorem tb_4_25_ok (K : xKx) (hK : x_KP K) : ∀ pc, x_EOq cls K xJ mq_4 pc (tb_4_25 pc) :=
  (x_Tok2
  (x_Tok2
  (x_Tok2
  (x_Tok2
  (x_Lok (x_st (I := xJ) (xr_aload_n (i := 0) (x_dk dl_4_0_ok 25 rfl))))
  (x_Tok2
  (x_Lok (x_st (I := xJ) (xr_getf (ci := 0) (k := 1) (ix := 17) (N := 20) (C := RX0) (T := TX0) rfl in_X0 (by decide) (in_t2 (List.mem_of_getElem? (i := 148) rfl) rfl) (x_dk dl_4_0_ok 26 rfl))))
  (x_Lok (x_st (I := xJ) (xr_aload_n (i := 0) (x_dk dl_4_0_ok 27 rfl))))))
  (x_Tok2
  (x_Lok (x_st (I := xJ) (xr_getf (ci := 0) (k := 8) (ix := 44) (N := 20) (C := RX0) (T := TX0) rfl in_X0 (by decide) (in_t2 (List.mem_of_getElem? (i := 168) rfl) rfl) (x_dk dl_4_0_ok 28 rfl))))
  (x_Tok2
  (x_Lok (x_st (I := xJ) (xr_iconst (n := 1) (z := 1) (v := 1) (x_dk dl_4_0_ok 29 rfl) (by decide) (by decide))))
  (x_Lok (x_st (I := xJ) (xr_iadd (x_dk dl_4_0_ok 30 rfl)))))))
  (x_Tok2
  (x_Tok2
  (x_Lok (x_st (I := xJ) (xr_aload_n (i := 0) (x_dk dl_4_0_ok 31 rfl))))
  (x_Tok2
  (x_Lok (x_st (I := xJ) (xr_getf (ci := 0) (k := 1) (ix := 17) (N := 20) (C := RX0) (T := TX0) rfl in_X0 (by decide) (in_t2 (List.mem_of_getElem? (i := 148) rfl) rfl) (x_dk dl_4_0_ok 32 rfl))))
  (x_Lok (x_st (I := xJ) (xr_aload_n (i := 0) (x_dk dl_4_0_ok 33 rfl))))))
  (x_Tok2
  (x_Lok (x_st (I := xJ) (xr_getf (ci := 0) (k := 8) (ix := 44) (N := 20) (C := RX0) (T := TX0) rfl in_X0 (by decide) (in_t2 (List.mem_of_getElem? (i := 168) rfl) rfl) (x_dk dl_4_0_ok 34 rfl))))
  (x_Tok2
  (x_Lok (x_st (I := xJ) (xr_iaload (x_dk dl_4_0_ok 35 rfl))))
  (x_Lok (x_st (I := xJ) (xr_iastore (x_dk dl_4_0_ok 36 rfl))))))))
  (x_Tok2
  (x_Tok2
  (x_Tok2
  (x_Lok (x_st (I := xJ) (xr_aload_n (i := 0) (x_dk dl_4_0_ok 37 rfl))))
  (x_Tok2
  (x_Lok (x_st (I := xJ) (xr_getf (ci := 0) (k := 2) (ix := 21) (N := 20) (C := RX0) (T := TX0) rfl in_X0 (by decide) (in_t2 (List.mem_of_getElem? (i := 152) rfl) rfl) (x_dk dl_4_0_ok 38 rfl))))
  (x_Lok (x_st (I := xJ) (xr_aload_n (i := 0) (x_dk dl_4_0_ok 39 rfl))))))
  (x_Tok2
  (x_Lok (x_st (I := xJ) (xr_getf (ci := 0) (k := 8) (ix := 44) (N := 20) (C := RX0) (T := TX0) rfl in_X0 (by decide) (in_t2 (List.mem_of_getElem? (i := 168) rfl) rfl) (x_dk dl_4_0_ok 40 rfl))))
  (x_Tok2
  (x_Lok (x_st (I := xJ) (xr_iconst (n := 1) (z := 1) (v := 1) (x_dk dl_4_0_ok 41 rfl) (by decide) (by decide))))
  (x_Lok (x_st (I := xJ) (xr_iadd (x_dk dl_4_0_ok 42 rfl)))))))
  (x_Tok2
  (x_Tok2
  (x_Lok (x_st (I := xJ) (xr_aload_n (i := 0) (x_dk dl_4_0_ok 43 rfl))))
  (x_Tok2
  (x_Lok (x_st (I := xJ) (xr_getf (ci := 0) (k := 2) (ix := 21) (N := 20) (C := RX0) (T := TX0) rfl in_X0 (by decide) (in_t2 (List.mem_of_getElem? (i := 152) rfl) rfl) (x_dk dl_4_0_ok 44 rfl))))
  (x_Lok (x_st (I := xJ) (xr_aload_n (i := 0) (x_dk dl_4_0_ok 45 rfl))))))
  (x_Tok2
  (x_Tok2
  (x_Lok (x_st (I := xJ) (xr_getf (ci := 0) (k := 8) (ix := 44) (N := 20) (C := RX0) (T := TX0) rfl in_X0 (by decide) (in_t2 (List.mem_of_getElem? (i := 168) rfl) rfl) (x_dk dl_4_0_ok 46 rfl))))
  (x_Lok (x_st (I := xJ) (xr_iaload (x_dk dl_4_0_ok 47 rfl)))))
  (x_Tok2
  (x_Lok (x_st (I := xJ) (xr_iastore (x_dk dl_4_0_ok 48 rfl))))
  (x_Lok (x_rt (I := xJ) (k := 0) ⟨(x_dk dl_4_0_ok 49 rfl), rfl⟩)))))))
def tb_4 : Nat → xE := (x_T 37 tb_4_0 tb_4_25)
theorem tb_4_ok (K : xKx) (hK : x_KP K) : ∀ pc, x_EOq cls K xJ mq_4 pc (tb_4 pc) := (x_Tok2 (tb_4_0_ok K hK) (tb_4_25_ok K hK))
def dl_5_0 : List (Nat × Instr × Nat) := [(0, .iconst 0, 1), (1, .istore_n 1, 1), (2, .iload_n 1, 1), (3, .aload_n 0, 1), (4, .getfield 44, 3), (7, .if_icmp .gt 33, 3), (10, .aload_n 0, 1), (11, .getfield 24, 3), (14, .iload_n 1, 1), (15, .aload_n 0, 1), (16, .getfield 17, 3), (19, .iload_n 1, 1), (20, .iaload, 1), (21, .iastore, 1), (22, .aload_n 0, 1), (23, .getfield 27, 3), (26, .iload_n 1, 1), (27, .aload_n 0, 1), (28, .getfield 21, 3), (31, .iload_n 1, 1), (32, .iaload, 1), (33, .iastore, 1), (34, .iinc 1 1, 3), (37, .goto (-35), 3), (40, .return_, 1)]
set_option maxRecDepth 20000 in
theorem dl_5_0_ok : dl_5_0.all (fun q => decide (decode prog_2_method_12_code q.1 = .ok (q.2.1, q.2.2))) = true := xa_g_ok (by decide +kernel)
def tb_5_0 : Nat → xE := (x_T 19 (x_T 7 (x_T 2 (x_T 0 (x_L 0 (0, xi_push (0, 0, 0) 1, 0, 0)) (x_T 1 (x_L 1 (0, xi_stor 1 0 2, 0, 0)) (x_L 2 (0, xi_load 1 0 3, 0, 0)))) (x_T 3 (x_L 3 (0, xi_load 0 2 4, 0, 0)) (x_T 4 (x_L 4 (0, xi_getf 0 8 7, 0, 0)) (x_L 7 (0, xi_if2 4 40 10, 0, 0))))) (x_T 14 (x_T 10 (x_L 10 (0, xi_load 0 2 11, 0, 0)) (x_T 11 (x_L 11 (0, xi_getf 0 3 14, 0, 0)) (x_L 14 (0, xi_load 1 0 15, 0, 0)))) (x_T 15 (x_L 15 (0, xi_load 0 2 16, 0, 0)) (x_T 16 (x_L 16 (0, xi_getf 0 1 19, 0, 0)) (x_L 19 (0, xi_load 1 0 20, 0, 0)))))) (x_T 27 (x_T 22 (x_T 20 (x_L 20 (0, xi_ald false 21, 0, 0)) (x_T 21 (x_L 21 (0, xi_ast false 22, 0, 0)) (x_L 22 (0, xi_load 0 2 23, 0, 0)))) (x_T 23 (x_L 23 (0, xi_getf 0 4 26, 0, 0)) (x_T 26 (x_L 26 (0, xi_load 1 0 27, 0, 0)) (x_L 27 (0, xi_load 0 2 28, 0, 0))))) (x_T 32 (x_T 28 (x_L 28 (0, xi_getf 0 2 31, 0, 0)) (x_T 31 (x_L 31 (0, xi_load 1 0 32, 0, 0)) (x_L 32 (0, xi_ald false 33, 0, 0)))) (x_T 34 (x_T 33 (x_L 33 (0, xi_ast false 34, 0, 0)) (x_L 34 (0, xi_inc 1 1 37, 0, 0))) (x_T 37 (x_L 37 (0, xi_goto 2, 0, 0)) (x_L 40 (1, x_nof, 0, 0)))))))
set_option maxRecDepth 20000 in
set_option maxHeartbeats 4000000 in
theorem tb_5_0_ok (K : xKx) (hK : x_KP K) : ∀ pc, x_EOq cls K xJ mq_5 pc (tb_5_0 pc) :=
  (x_Tok2
  (x_Tok2
  (x_Tok2
  (x_Tok2
  (x_Lok (x_st (I := xJ) (xr_iconst (n := 0) (z := 0) (v := 0) (x_dk dl_5_0_ok 0 rfl) (by decide) (by decide))))
  (x_Tok2
  (x_Lok (x_st (I := xJ) (xr_istore_n (i := 1) (x_dk dl_5_0_ok 1 rfl) (by decide +kernel))))
  (x_Lok (x_st (I := xJ) (xr_iload_n (i := 1) (x_dk dl_5_0_ok 2 rfl))))))
  (x_Tok2
  (x_Lok (x_st (I := xJ) (xr_aload_n (i := 0) (x_dk dl_5_0_ok 3 rfl))))
  (x_Tok2
  (x_Lok (x_st (I := xJ) (xr_getf (ci := 0) (k := 8) (ix := 44) (N := 20) (C := RX0) (T := TX0) rfl in_X0 (by decide) (in_t2 (List.mem_of_getElem? (i := 168) rfl) rfl) (x_dk dl_5_0_ok 4 rfl))))
  (x_Lok (x_st (I := xJ) (xr_icmpgt (off := 33) (tg := 40) (x_dk dl_5_0_ok 5 rfl) (by decide)))))))
  (x_Tok2
  (x_Tok2
  (x_Lok (x_st (I := xJ) (xr_aload_n (i := 0) (x_dk dl_5_0_ok 6 rfl))))
  (x_Tok2
  (x_Lok (x_st (I := xJ) (xr_getf (ci := 0) (k := 3) (ix := 24) (N := 20) (C := RX0) (T := TX0) rfl in_X0 (by decide) (in_t2 (List.mem_of_getElem? (i := 156) rfl) rfl) (x_dk dl_5_0_ok 7 rfl))))
  (x_Lok (x_st (I := xJ) (xr_iload_n (i := 1) (x_dk dl_5_0_ok 8 rfl))))))
  (x_Tok2
  (x_Lok (x_st (I := xJ) (xr_aload_n (i := 0) (x_dk dl_5_0_ok 9 rfl))))
  (x_Tok2
  (x_Lok (x_st (I := xJ) (xr_getf (ci := 0) (k := 1) (ix := 17) (N := 20) (C := RX0) (T := TX0) rfl in_X0 (by decide) (in_t2 (List.mem_of_getElem? (i := 148) rfl) rfl) (x_dk dl_5_0_ok 10 rfl))))
  (x_Lok (x_st (I := xJ) (xr_iload_n (i := 1) (x_dk dl_5_0_ok 11 rfl))))))))
  (x_Tok2
  (x_Tok2
  (x_Tok2
  (x_Lok (x_st (I := xJ) (xr_iaload (x_dk dl_5_0_ok 12 rfl))))
  (x_Tok2
  (x_Lok (x_st (I := xJ) (xr_iastore (x_dk dl_5_0_ok 13 rfl))))
  (x_Lok (x_st (I := xJ) (xr_aload_n (i := 0) (x_dk dl_5_0_ok 14 rfl))))))
  (x_Tok2
  (x_Lok (x_st (I := xJ) (xr_getf (ci := 0) (k := 4) (ix := 27) (N := 20) (C := RX0) (T := TX0) rfl in_X0 (by decide) (in_t2 (List.mem_of_getElem? (i := 158) rfl) rfl) (x_dk dl_5_0_ok 15 rfl))))
  (x_Tok2
  (x_Lok (x_st (I := xJ) (xr_iload_n (i := 1) (x_dk dl_5_0_ok 16 rfl))))
  (x_Lok (x_st (I := xJ) (xr_aload_n (i := 0) (x_dk dl_5_0_ok 17 rfl)))))))
  (x_Tok2
  (x_Tok2
  (x_Lok (x_st (I := xJ) (xr_getf (ci := 0) (k := 2) (ix := 21) (N := 20) (C := RX0) (T := TX0) rfl in_X0 (by decide) (in_t2 (List.mem_of_getElem? (i := 152) rfl) rfl) (x_dk dl_5_0_ok 18 rfl))))
  (x_Tok2
  (x_Lok (x_st (I := xJ) (xr_iload_n (i := 1) (x_dk dl_5_0_ok 19 rfl))))
  (x_Lok (x_st (I := xJ) (xr_iaload (x_dk dl_5_0_ok 20 rfl))))))
  (x_Tok2
  (x_Tok2
  (x_Lok (x_st (I := xJ) (xr_iastore (x_dk dl_5_0_ok 21 rfl))))
  (x_Lok (x_st (I := xJ) (xr_iinc (i := 1) (n := 1) (x_dk dl_5_0_ok 22 rfl) (by decide +kernel) (by decide)))))
  (x_Tok2
  (x_Lok (x_st (I := xJ) (xr_goto (off := (-35)) (tg := 2) (x_dk dl_5_0_ok 23 rfl) (by decide))))
  (x_Lok (x_rt (I := xJ) (k := 0) ⟨(x_dk dl_5_0_ok 24 rfl), rfl⟩)))))))
def tb_5 : Nat → xE := tb_5_0
theorem tb_5_ok (K : xKx) (hK : x_KP K) : ∀ pc, x_EOq cls K xJ mq_5 pc (tb_5 pc) := tb_5_0_ok K hK
def dl_6_0 : List (Nat × Instr × Nat) := [(0, .aload_n 0, 1), (1, .iconst 0, 1), (2, .putfield 132, 3), (5, .aload_n 0, 1), (6, .iconst (-1), 1), (7, .putfield 138, 3), (10, .aload_n 0, 1), (11, .iconst (-1), 1), (12, .putfield 155, 3), (15, .iconst 0, 1), (16, .istore_n 1, 1), (17, .iload_n 1, 1), (18, .bipush 6, 2), (20, .if_icmp .ge 19, 3), (23, .aload_n 0, 1), (24, .getfield 11, 3), (27, .iload_n 1, 1), (28, .aaload, 1), (29, .iconst 0, 1), (30, .putfield 126, 3), (33, .iinc 1 1, 3), (36, .goto (-19), 3), (39, .return_, 1)]
set_option maxRecDepth 20000 in
theorem dl_6_0_ok : dl_6_0.all (fun q => decide (decode prog_2_method_18_code q.1 = .ok (q.2.1, q.2.2))) = true := xa_g_ok (by decide +kernel)
def tb_6_0 : Nat → xE := (x_T 16 (x_T 6 (x_T 1 (x_T 0 (x_L 0 (0, xi_load 0 2 1, 0, 0)) (x_L 1 (0, xi_push (0, 0, 0) 2, 0, 0))) (x_T 2 (x_L 2 (0, xi_putf 0 11 0 5, 0, 0)) (x_T 5 (x_L 5 (0, xi_load 0 2 6, 0, 0)) (x_L 6 (0, xi_push (0, (-1), (-1)) 7, 0, 0))))) (x_T 11 (x_T 7 (x_L 7 (0, xi_putf 0 13 0 10, 0, 0)) (x_T 10 (x_L 10 (0, xi_load 0 2 11, 0, 0)) (x_L 11 (0, xi_push (0, (-1), (-1)) 12, 0, 0)))) (x_T 12 (x_L 12 (0, xi_putf 0 18 0 15, 0, 0)) (x_T 15 (x_L 15 (0, xi_push (0, 0, 0) 16, 0, 0)) (x_L 16 (0, xi_stor 1 0 17, 0, 0)))))) (x_T 27 (x_T 20 (x_T 17 (x_L 17 (0, xi_load 1 0 18, 0, 0)) (x_T 18 (x_L 18 (0, xi_push (0, 6, 6) 20, 0, 0)) (x_L 20 (0, xi_if2 3 39 23, 0, 0)))) (x_T 23 (x_L 23 (0, xi_load 0 2 24, 0, 0)) (x_T 24 (x_L 24 (0, xi_getf 0 0 27, 0, 0)) (x_L 27 (0, xi_load 1 0 28, 0, 0))))) (x_T 30 (x_T 28 (x_L 28 (0, xi_aald 29, 0, 0)) (x_T 29 (x_L 29 (0, xi_push (0, 0, 0) 30, 0, 0)) (x_L 30 (0, xi_putf 5 8 0 33, 0, 0)))) (x_T 33 (x_L 33 (0, xi_inc 1 1 36, 0, 0)) (x_T 36 (x_L 36 (0, xi_goto 17, 0, 0)) (x_L 39 (1, x_nof, 0, 0)))))))
set_option maxRecDepth 20000 in
set_option maxHeartbeats 4000000 in
theorem tb_6_0_ok (K : xKx) (hK : x_KP K) : ∀ pc, x_EOq cls K xJ mq_6 pc (tb_6_0 pc) :=
  (x_Tok2
  (x_Tok2
  (x_Tok2
  (x_Tok2
  (x_Lok (x_st (I := xJ) (xr_aload_n (i := 0) (x_dk dl_6_0_ok 0 rfl))))
  (x_Lok (x_st (I := xJ) (xr_iconst (n := 0) (z := 0) (v := 0) (x_dk dl_6_0_ok 1 rfl) (by decide) (by decide)))))
  (x_Tok2
  (x_Lok (x_st (I := xJ) (xr_putf (ci := 0) (k := 11) (ix := 132) (N := 20) (fk := 0) (C := RX0) (T := TX0) (ty0 := tyX0) (ty := .int) rfl in_X0 tyX0_ok nmX0 (by decide) (in_t2 (List.mem_of_getElem? (i := 177) rfl) rfl) rfl rfl x_fit_int (x_dk dl_6_0_ok 2 rfl))))
  (x_Tok2
  (x_Lok (x_st (I := xJ) (xr_aload_n (i := 0) (x_dk dl_6_0_ok 3 rfl))))
  (x_Lok (x_st (I := xJ) (xr_iconst (n := (-1)) (z := (-1)) (v := (-1)) (x_dk dl_6_0_ok 4 rfl) (by decide) (by decide)))))))
  (x_Tok2
  (x_Tok2
  (x_Lok (x_st (I := xJ) (xr_putf (ci := 0) (k := 13) (ix := 138) (N := 20) (fk := 0) (C := RX0) (T := TX0) (ty0 := tyX0) (ty := .int) rfl in_X0 tyX0_ok nmX0 (by decide) (in_t2 (List.mem_of_getElem? (i := 182) rfl) rfl) rfl rfl x_fit_int (x_dk dl_6_0_ok 5 rfl))))
  (x_Tok2
  (x_Lok (x_st (I := xJ) (xr_aload_n (i := 0) (x_dk dl_6_0_ok 6 rfl))))
  (x_Lok (x_st (I := xJ) (xr_iconst (n := (-1)) (z := (-1)) (v := (-1)) (x_dk dl_6_0_ok 7 rfl) (by decide) (by decide))))))
  (x_Tok2
  (x_Lok (x_st (I := xJ) (xr_putf (ci := 0) (k := 18) (ix := 155) (N := 20) (fk := 0) (C := RX0) (T := TX0) (ty0 := tyX0) (ty := .int) rfl in_X0 tyX0_ok nmX0 (by decide) (in_t2 (List.mem_of_getElem? (i := 197) rfl) rfl) rfl rfl x_fit_int (x_dk dl_6_0_ok 8 rfl))))
  (x_Tok2
  (x_Lok (x_st (I := xJ) (xr_iconst (n := 0) (z := 0) (v := 0) (x_dk dl_6_0_ok 9 rfl) (by decide) (by decide))))
  (x_Lok (x_st (I := xJ) (xr_istore_n (i := 1) (x_dk dl_6_0_ok 10 rfl) (by decide +kernel))))))))
  (x_Tok2
  (x_Tok2
  (x_Tok2
  (x_Lok (x_st (I := xJ) (xr_iload_n (i := 1) (x_dk dl_6_0_ok 11 rfl))))
  (x_Tok2
  (x_Lok (x_st (I := xJ) (xr_bipush (n := 6) (z := 6) (v := 6) (x_dk dl_6_0_ok 12 rfl) (by decide) (by decide))))
  (x_Lok (x_st (I := xJ) (xr_icmpge (off := 19) (tg := 39) (x_dk dl_6_0_ok 13 rfl) (by decide))))))
  (x_Tok2
  (x_Lok (x_st (I := xJ) (xr_aload_n (i := 0) (x_dk dl_6_0_ok 14 rfl))))
  (x_Tok2
  (x_Lok (x_st (I := xJ) (xr_getf (ci := 0) (k := 0) (ix := 11) (N := 20) (C := RX0) (T := TX0) rfl in_X0 (by decide) (in_t2 (List.mem_of_getElem? (i := 144) rfl) rfl) (x_dk dl_6_0_ok 15 rfl))))
  (x_Lok (x_st (I := xJ) (xr_iload_n (i := 1) (x_dk dl_6_0_ok 16 rfl)))))))
  (x_Tok2
  (x_Tok2
  (x_Lok (x_st (I := xJ) (xr_aaload (x_dk dl_6_0_ok 17 rfl))))
  (x_Tok2
  (x_Lok (x_st (I := xJ) (xr_iconst (n := 0) (z := 0) (v := 0) (x_dk dl_6_0_ok 18 rfl) (by decide) (by decide))))
  (x_Lok (x_st (I := xJ) (xr_putf (ci := 5) (k := 8) (ix := 126) (N := 12) (fk := 0) (C := RX5) (T := TX5) (ty0 := tyX5) (ty := .int) rfl in_X5 tyX5_ok nmX5 (by decide) (in_t2 (List.mem_of_getElem? (i := 110) rfl) rfl) rfl rfl x_fit_int (x_dk dl_6_0_ok 19 rfl))))))
  (x_Tok2
  (x_Lok (x_st (I := xJ) (xr_iinc (i := 1) (n := 1) (x_dk dl_6_0_ok 20 rfl) (by decide +kernel) (by decide))))
  (x_Tok2
  (x_Lok (x_st (I := xJ) (xr_goto (off := (-19)) (tg := 17) (x_dk dl_6_0_ok 21 rfl) (by decide))))
  (x_Lok (x_rt (I := xJ) (k := 0) ⟨(x_dk dl_6_0_ok 22 rfl), rfl⟩)))))))
def tb_6 : Nat → xE := tb_6_0
theorem tb_6_ok (K : xKx) (hK : x_KP K) : ∀ pc, x_EOq cls K xJ mq_6 pc (tb_6 pc) := tb_6_0_ok K hK
def dl_7_0 : List (Nat × Instr × Nat) := [(0, .aload_n 0, 1), (1, .invokespecial 3, 3), (4, .aload_n 0, 1), (5, .bipush 32, 2), (7, .newarray .int, 2), (9, .putfield 9, 3), (12, .aload_n 0, 1), (13, .sipush 4000, 3), (16, .newarray .int, 2), (18, .putfield 15, 3), (21, .return_, 1)]
set_option maxRecDepth 20000 in
theorem dl_7_0_ok : dl_7_0.all (fun q => decide (decode prog_3_method_1_code q.1 = .ok (q.2.1, q.2.2))) = true := xa_g_ok (by decide +kernel)
def tb_7_0 : Nat → xE := (x_T 7 (x_T 1 (x_T 0 (x_L 0 (0, xi_load 0 2 1, 0, 0)) (x_L 1 (0, xi_oi 4, 0, 0))) (x_T 4 (x_L 4 (0, xi_load 0 2 5, 0, 0)) (x_T 5 (x_L 5 (0, xi_push (0, 32, 32) 7, 0, 0)) (x_L 7 (0, xi_newa 1 0 (0, 0, 0) (xm_c mq_7) (xm_s mq_7) 9, 0, 0))))) (x_T 13 (x_T 9 (x_L 9 (0, xi_putf 1 3 2 12, 0, 0)) (x_T 12 (x_L 12 (0, xi_load 0 2 13, 0, 0)) (x_L 13 (0, xi_push (0, 4000, 4000) 16, 0, 0)))) (x_T 16 (x_L 16 (0, xi_newa 1 0 (0, 0, 0) (xm_c mq_7) (xm_s mq_7) 18, 0, 0)) (x_T 18 (x_L 18 (0, xi_putf 1 4 2 21, 0, 0)) (x_L 21 (1, x_nof, 0, 0))))))
set_option maxRecDepth 20000 in
set_option maxHeartbeats 4000000 in
theorem tb_7_0_ok (K : xKx) (hK : x_KP K) : ∀ pc, x_EOq cls K xJ mq_7 pc (tb_7_0 pc) :=
  (x_Tok2
  (x_Tok2
  (x_Tok2
  (x_Lok (x_st (I := xJ) (xr_aload_n (i := 0) (x_dk dl_7_0_ok 0 rfl))))
  (x_Lok (x_st (I := xJ) (xr_oi (ix := 3) (in_t1 (List.mem_of_getElem? (i := 40) rfl) rfl) (in_t1 (List.mem_of_getElem? (i := 27) rfl) rfl) (in_t1 (List.mem_of_getElem? (i := 28) rfl) rfl) (x_dk dl_7_0_ok 1 rfl)))))
  (x_Tok2
  (x_Lok (x_st (I := xJ) (xr_aload_n (i := 0) (x_dk dl_7_0_ok 2 rfl))))
  (x_Tok2
  (x_Lok (x_st (I := xJ) (xr_bipush (n := 32) (z := 32) (v := 32) (x_dk dl_7_0_ok 3 rfl) (by decide) (by decide))))
  (x_Lok (x_st (I := xJ) (xr_newa (kd := 1) (b := false) (ty := .int) rfl rfl (in_t1 (List.mem_of_getElem? (i := 64) rfl) rfl) (x_dk dl_7_0_ok 4 rfl)))))))
  (x_Tok2
  (x_Tok2
  (x_Lok (x_st (I := xJ) (xr_putF (ci := 1) (k := 3) (ix := 9) (N := 5) (fk := 2) (C := RX1) (T := TX1) (ty0 := tyX1) (ty := .array .int) rfl in_X1 tyX1_ok nmX1 (by decide) (in_t1 (List.mem_of_getElem? (i := 49) rfl) rfl) rfl rfl rfl rfl x_fit_arr (x_dk dl_7_0_ok 5 rfl))))
  (x_Tok2
  (x_Lok (x_st (I := xJ) (xr_aload_n (i := 0) (x_dk dl_7_0_ok 6 rfl))))
  (x_Lok (x_st (I := xJ) (xr_sipush (n := 4000) (z := 4000) (v := 4000) (x_dk dl_7_0_ok 7 rfl) (by decide) (by decide))))))
  (x_Tok2
  (x_Lok (x_st (I := xJ) (xr_newa (kd := 1) (b := false) (ty := .int) rfl rfl (in_t1 (List.mem_of_getElem? (i := 64) rfl) rfl) (x_dk dl_7_0_ok 8 rfl))))
  (x_Tok2
  (x_Lok (x_st (I := xJ) (xr_putF (ci := 1) (k := 4) (ix := 15) (N := 5) (fk := 2) (C := RX1) (T := TX1) (ty0 := tyX1) (ty := .array .int) rfl in_X1 tyX1_ok nmX1 (by decide) (in_t1 (List.mem_of_getElem? (i := 52) rfl) rfl) rfl rfl rfl rfl x_fit_arr (x_dk dl_7_0_ok 9 rfl))))
  (x_Lok (x_rt (I := xJ) (k := 0) ⟨(x_dk dl_7_0_ok 10 rfl), rfl⟩))))))
def tb_7 : Nat → xE := tb_7_0
theorem tb_7_ok (K : xKx) (hK : x_KP K) : ∀ pc, x_EOq cls K xJ mq_7 pc (tb_7 pc) := tb_7_0_ok K hK
def dl_8_0 : List (Nat × Instr × Nat) := [(0, .aload_n 0, 1), (1, .iconst 0, 1), (2, .putfield 18, 3), (5, .aload_n 0, 1), (6, .iconst 0, 1), (7, .putfield 22, 3), (10, .aload_n 0, 1), (11, .iconst 0, 1), (12, .putfield 25, 3), (15, .return_, 1)]
set_option maxRecDepth 20000 in
theorem dl_8_0_ok : dl_8_0.all (fun q => decide (decode prog_3_method_2_code q.1 = .ok (q.2.1, q.2.2))) = true := xa_g_ok (by decide +kernel)
def tb_8_0 : Nat → xE := (x_T 6 (x_T 1 (x_T 0 (x_L 0 (0, xi_load 0 2 1, 0, 0)) (x_L 1 (0, xi_push (0, 0, 0) 2, 0, 0))) (x_T 2 (x_L 2 (0, xi_putf 1 0 0 5, 0, 0)) (x_T 5 (x_L 5 (0, xi_load 0 2 6, 0, 0)) (x_L 6 (0, xi_push (0, 0, 0) 7, 0, 0))))) (x_T 10 (x_T 7 (x_L 7 (0, xi_putf 1 1 0 10, 0, 0)) (x_L 10 (0, xi_load 0 2 11, 0, 0))) (x_T 11 (x_L 11 (0, xi_push (0, 0, 0) 12, 0, 0)) (x_T 12 (x_L 12 (0, xi_putf 1 2 0 15, 0, 0)) (x_L 15 (1, x_nof, 0, 0))))))
set_option maxRecDepth 20000 in
set_option maxHeartbeats 4000000 in
theorem tb_8_0_ok (K : xKx) (hK : x_KP K) : ∀ pc, x_EOq cls K xJ mq_8 pc (tb_8_0 pc) :=
  (x_Tok2
  (x_Tok2
  (x_Tok2
  (x_Lok (x_st (I := xJ) (xr_aload_n (i := 0) (x_dk dl_8_0_ok 0 rfl))))
  (x_Lok (x_st (I := xJ) (xr_iconst (n := 0) (z := 0) (v := 0) (x_dk dl_8_0_ok 1 rfl) (by decide) (by decide)))))
  (x_Tok2
  (x_Lok (x_st (I := xJ) (xr_putf (ci := 1) (k := 0) (ix := 18) (N := 5) (fk := 0) (C := RX1) (T := TX1) (ty0 := tyX1) (ty := .int) rfl in_X1 tyX1_ok nmX1 (by decide) (in_t1 (List.mem_of_getElem? (i := 41) rfl) rfl) rfl rfl x_fit_int (x_dk dl_8_0_ok 2 rfl))))
  (x_Tok2
  (x_Lok (x_st (I := xJ) (xr_aload_n (i := 0) (x_dk dl_8_0_ok 3 rfl))))
  (x_Lok (x_st (I := xJ) (xr_iconst (n := 0) (z := 0) (v := 0) (x_dk dl_8_0_ok 4 rfl) (by decide) (by decide)))))))
  (x_Tok2
  (x_Tok2
  (x_Lok (x_st (I := xJ) (xr_putf (ci := 1) (k := 1) (ix := 22) (N := 5) (fk := 0) (C := RX1) (T := TX1) (ty0 := tyX1) (ty := .int) rfl in_X1 tyX1_ok nmX1 (by decide) (in_t1 (List.mem_of_getElem? (i := 43) rfl) rfl) rfl rfl x_fit_int (x_dk dl_8_0_ok 5 rfl))))
  (x_Lok (x_st (I := xJ) (xr_aload_n (i := 0) (x_dk dl_8_0_ok 6 rfl)))))
  (x_Tok2
  (x_Lok (x_st (I := xJ) (xr_iconst (n := 0) (z := 0) (v := 0) (x_dk dl_8_0_ok 7 rfl) (by decide) (by decide))))
  (x_Tok2
  (x_Lok (x_st (I := xJ) (xr_putf (ci := 1) (k := 2) (ix := 25) (N := 5) (fk := 0) (C := RX1) (T := TX1) (ty0 := tyX1) (ty := .int) rfl in_X1 tyX1_ok nmX1 (by decide) (in_t1 (List.mem_of_getElem? (i := 46) rfl) rfl) rfl rfl x_fit_int (x_dk dl_8_0_ok 8 rfl))))
  (x_Lok (x_rt (I := xJ) (k := 0) ⟨(x_dk dl_8_0_ok 9 rfl), rfl⟩))))))
def tb_8 : Nat → xE := tb_8_0
theorem tb_8_ok (K : xKx) (hK : x_KP K) : ∀ pc, x_EOq cls K xJ mq_8 pc (tb_8 pc) := tb_8_0_ok K hK
def dl_9_0 : List (Nat × Instr × Nat) := [(0, .aload_n 0, 1), (1, .invokespecial 3, 3), (4, .aload_n 0, 1), (5, .sipush 8000, 3), (8, .newarray .int, 2), (10, .putfield 11, 3), (13, .aload_n 0, 1), (14, .bipush 8, 2), (16, .newarray .int, 2), (18, .putfield 15, 3), (21, .aload_n 0, 1), (22, .bipush 8, 2), (24, .newarray .boolean, 2), (26, .putfield 18, 3), (29, .aload_n 0, 1), (30, .bipush 8, 2), (32, .newarray .boolean, 2), (34, .putfield 22, 3), (37, .aload_n 0, 1), (38, .bipush 8, 2), (40, .newarray .boolean, 2), (42, .putfield 25, 3), (45, .aload_n 0, 1), (46, .bipush 8, 2), (48, .newarray .boolean, 2), (50, .putfield 28, 3), (53, .aload_n 0, 1), (54, .bipush 8, 2), (56, .newarray .int, 2), (58, .putfield 31, 3), (61, .return_, 1)]
set_option maxRecDepth 20000 in
theorem dl_9_0_ok : dl_9_0.all (fun q => decide (decode prog_4_method_1_code q.1 = .ok (q.2.1, q.2.2))) = true := xa_g_ok (by decide +kernel)
def tb_9_0 : Nat → xE := (x_T 29 (x_T 13 (x_T 4 (x_T 0 (x_L 0 (0, xi_load 0 2 1, 0, 0)) (x_T 1 (x_L 1 (0, xi_oi 4, 0, 0)) (x_L 4 (0, xi_load 0 2 5, 0, 0)))) (x_T 8 (x_T 5 (x_L 5 (0, xi_push (0, 8000, 8000) 8, 0, 0)) (x_L 8 (0, xi_newa 1 0 (0, 0, 0) (xm_c mq_9) (xm_s mq_9) 10, 0, 0))) (x_T 10 (x_L 10 (0, xi_putf 2 8 2 13, 0, 0)) (x_L 13 (0, xi_load 0 2 14, 0, 0))))) (x_T 21 (x_T 16 (x_T 14 (x_L 14 (0, xi_push (0, 8, 8) 16, 0, 0)) (x_L 16 (0, xi_newa 1 0 (0, 0, 0) (xm_c mq_9) (xm_s mq_9) 18, 0, 0))) (x_T 18 (x_L 18 (0, xi_putf 2 9 2 21, 0, 0)) (x_L 21 (0, xi_load 0 2 22, 0, 0)))) (x_T 24 (x_T 22 (x_L 22 (0, xi_push (0, 8, 8) 24, 0, 0)) (x_L 24 (0, xi_newa 3 0 (0, 0, 0) (xm_c mq_9) (xm_s mq_9) 26, 0, 0))) (x_T 26 (x_L 26 (0, xi_putf 2 10 2 29, 0, 0)) (x_L 29 (0, xi_load 0 2 30, 0, 0)))))) (x_T 45 (x_T 37 (x_T 32 (x_T 30 (x_L 30 (0, xi_push (0, 8, 8) 32, 0, 0)) (x_L 32 (0, xi_newa 3 0 (0, 0, 0) (xm_c mq_9) (xm_s mq_9) 34, 0, 0))) (x_T 34 (x_L 34 (0, xi_putf 2 11 2 37, 0, 0)) (x_L 37 (0, xi_load 0 2 38, 0, 0)))) (x_T 40 (x_T 38 (x_L 38 (0, xi_push (0, 8, 8) 40, 0, 0)) (x_L 40 (0, xi_newa 3 0 (0, 0, 0) (xm_c mq_9) (xm_s mq_9) 42, 0, 0))) (x_T 42 (x_L 42 (0, xi_putf 2 12 2 45, 0, 0)) (x_L 45 (0, xi_load 0 2 46, 0, 0))))) (x_T 53 (x_T 48 (x_T 46 (x_L 46 (0, xi_push (0, 8, 8) 48, 0, 0)) (x_L 48 (0, xi_newa 3 0 (0, 0, 0) (xm_c mq_9) (xm_s mq_9) 50, 0, 0))) (x_T 50 (x_L 50 (0, xi_putf 2 13 2 53, 0, 0)) (x_L 53 (0, xi_load 0 2 54, 0, 0)))) (x_T 56 (x_T 54 (x_L 54 (0, xi_push (0, 8, 8) 56, 0, 0)) (x_L 56 (0, xi_newa 1 0 (0, 0, 0) (xm_c mq_9) (xm_s mq_9) 58, 0, 0))) (x_T 58 (x_L 58 (0, xi_putf 2 14 2 61, 0, 0)) (x_L 61 (1, x_nof, 0, 0)))))))
set_option maxRecDepth 20000 in
set_option maxHeartbeats 4000000 in
theorem tb_9_0_ok (K : xKx) (hK : x_KP K) : ∀ pc, x_EOq cls K xJ mq_9 pc (tb_9_0 pc) :=
  (x_Tok2
  (x_Tok2
  (x_Tok2
  (x_Tok2
  (x_Lok (x_st (I := xJ) (xr_aload_n (i := 0) (x_dk dl_9_0_ok 0 rfl))))
  (x_Tok2
  (x_Lok (x_st (I := xJ) (xr_oi (ix := 3) (in_t2 (List.mem_of_getElem? (i := 11) rfl) rfl) (in_t1 (List.mem_of_getElem? (i := 27) rfl) rfl) (in_t1 (List.mem_of_getElem? (i := 28) rfl) rfl) (x_dk dl_9_0_ok 1 rfl))))
  (x_Lok (x_st (I := xJ) (xr_aload_n (i := 0) (x_dk dl_9_0_ok 2 rfl))))))
  (x_Tok2
  (x_Tok2
  (x_Lok (x_st (I := xJ) (xr_sipush (n := 8000) (z := 8000) (v := 8000) (x_dk dl_9_0_ok 3 rfl) (by decide) (by decide))))
  (x_Lok (x_st (I := xJ) (xr_newa (kd := 1) (b := false) (ty := .int) rfl rfl (in_t1 (List.mem_of_getElem? (i := 64) rfl) rfl) (x_dk dl_9_0_ok 4 rfl)))))
  (x_Tok2
  (x_Lok (x_st (I := xJ) (xr_putF (ci := 2) (k := 8) (ix := 11) (N := 15) (fk := 2) (C := RX2) (T := TX2) (ty0 := tyX2) (ty := .array .int) rfl in_X2 tyX2_ok nmX2 (by decide) (in_t2 (List.mem_of_getElem? (i := 31) rfl) rfl) rfl rfl rfl rfl x_fit_arr (x_dk dl_9_0_ok 5 rfl))))
  (x_Lok (x_st (I := xJ) (xr_aload_n (i := 0) (x_dk dl_9_0_ok 6 rfl)))))))
  (x_Tok2
  (x_Tok2
  (x_Tok2
  (x_Lok (x_st (I := xJ) (xr_bipush (n := 8) (z := 8) (v := 8) (x_dk dl_9_0_ok 7 rfl) (by decide) (by decide))))
  (x_Lok (x_st (I := xJ) (xr_newa (kd := 1) (b := false) (ty := .int) rfl rfl (in_t1 (List.mem_of_getElem? (i := 64) rfl) rfl) (x_dk dl_9_0_ok 8 rfl)))))
  (x_Tok2
  (x_Lok (x_st (I := xJ) (xr_putF (ci := 2) (k := 9) (ix := 15) (N := 15) (fk := 2) (C := RX2) (T := TX2) (ty0 := tyX2) (ty := .array .int) rfl in_X2 tyX2_ok nmX2 (by decide) (in_t2 (List.mem_of_getElem? (i := 33) rfl) rfl) rfl rfl rfl rfl x_fit_arr (x_dk dl_9_0_ok 9 rfl))))
  (x_Lok (x_st (I := xJ) (xr_aload_n (i := 0) (x_dk dl_9_0_ok 10 rfl))))))
  (x_Tok2
  (x_Tok2
  (x_Lok (x_st (I := xJ) (xr_bipush (n := 8) (z := 8) (v := 8) (x_dk dl_9_0_ok 11 rfl) (by decide) (by decide))))
  (x_Lok (x_st (I := xJ) (xr_newa (kd := 3) (b := true) (ty := .boolean) rfl rfl (in_t1 (List.mem_of_getElem? (i := 166) rfl) rfl) (x_dk dl_9_0_ok 12 rfl)))))
  (x_Tok2
  (x_Lok (x_st (I := xJ) (xr_putF (ci := 2) (k := 10) (ix := 18) (N := 15) (fk := 2) (C := RX2) (T := TX2) (ty0 := tyX2) (ty := .array .boolean) rfl in_X2 tyX2_ok nmX2 (by decide) (in_t2 (List.mem_of_getElem? (i := 35) rfl) rfl) rfl rfl rfl rfl x_fit_arr (x_dk dl_9_0_ok 13 rfl))))
  (x_Lok (x_st (I := xJ) (xr_aload_n (i := 0) (x_dk dl_9_0_ok 14 rfl))))))))
  (x_Tok2
  (x_Tok2
  (x_Tok2
  (x_Tok2
  (x_Lok (x_st (I := xJ) (xr_bipush (n := 8) (z := 8) (v := 8) (x_dk dl_9_0_ok 15 rfl) (by decide) (by decide))))
  (x_Lok (x_st (I := xJ) (xr_newa (kd := 3) (b := true) (ty := .boolean) rfl rfl (in_t1 (List.mem_of_getElem? (i := 166) rfl) rfl) (x_dk dl_9_0_ok 16 rfl)))))
  (x_Tok2
  (x_Lok (x_st (I := xJ) (xr_putF (ci := 2) (k := 11) (ix := 22) (N := 15) (fk := 2) (C := RX2) (T := TX2) (ty0 := tyX2) (ty := .array .boolean) rfl in_X2 tyX2_ok nmX2 (by decide) (in_t2 (List.mem_of_getElem? (i := 37) rfl) rfl) rfl rfl rfl rfl x_fit_arr (x_dk dl_9_0_ok 17 rfl))))
  (x_Lok (x_st (I := xJ) (xr_aload_n (i := 0) (x_dk dl_9_0_ok 18 rfl))))))
  (x_Tok2
  (x_Tok2
  (x_Lok (x_st (I := xJ) (xr_bipush (n := 8) (z := 8) (v := 8) (x_dk dl_9_0_ok 19 rfl) (by decide) (by decide))))
  (x_Lok (x_st (I := xJ) (xr_newa (kd := 3) (b := true) (ty := .boolean) rfl rfl (in_t1 (List.mem_of_getElem? (i := 166) rfl) rfl) (x_dk dl_9_0_ok 20 rfl)))))
  (x_Tok2
  (x_Lok (x_st (I := xJ) (xr_putF (ci := 2) (k := 12) (ix := 25) (N := 15) (fk := 2) (C := RX2) (T := TX2) (ty0 := tyX2) (ty := .array .boolean) rfl in_X2 tyX2_ok nmX2 (by decide) (in_t2 (List.mem_of_getElem? (i := 38) rfl) rfl) rfl rfl rfl rfl x_fit_arr (x_dk dl_9_0_ok 21 rfl))))
  (x_Lok (x_st (I := xJ) (xr_aload_n (i := 0) (x_dk dl_9_0_ok 22 rfl)))))))
  (x_Tok2
  (x_Tok2
  (x_Tok2
  (x_Lok (x_st (I := xJ) (xr_bipush (n := 8) (z := 8) (v := 8) (x_dk dl_9_0_ok 23 rfl) (by decide) (by decide))))
  (x_Lok (x_st (I := xJ) (xr_newa (kd := 3) (b := true) (ty := .boolean) rfl rfl (in_t1 (List.mem_of_getElem? (i := 166) rfl) rfl) (x_dk dl_9_0_ok 24 rfl)))))
  (x_Tok2
  (x_Lok (x_st (I := xJ) (xr_putF (ci := 2) (k := 13) (ix := 28) (N := 15) (fk := 2) (C := RX2) (T := TX2) (ty0 := tyX2) (ty := .array .boolean) rfl in_X2 tyX2_ok nmX2 (by decide) (in_t2 (List.mem_of_getElem? (i := 39) rfl) rfl) rfl rfl rfl rfl x_fit_arr (x_dk dl_9_0_ok 25 rfl))))
  (x_Lok (x_st (I := xJ) (xr_aload_n (i := 0) (x_dk dl_9_0_ok 26 rfl))))))
  (x_Tok2
  (x_Tok2
  (x_Lok (x_st (I := xJ) (xr_bipush (n := 8) (z := 8) (v := 8) (x_dk dl_9_0_ok 27 rfl) (by decide) (by decide))))
  (x_Lok (x_st (I := xJ) (xr_newa (kd := 1) (b := false) (ty := .int) rfl rfl (in_t1 (List.mem_of_getElem? (i := 64) rfl) rfl) (x_dk dl_9_0_ok 28 rfl)))))
  (x_Tok2
  (x_Lok (x_st (I := xJ) (xr_putF (ci := 2) (k := 14) (ix := 31) (N := 15) (fk := 2) (C := RX2) (T := TX2) (ty0 := tyX2) (ty := .array .int) rfl in_X2 tyX2_ok nmX2 (by decide) (in_t2 (List.mem_of_getElem? (i := 40) rfl) rfl) rfl rfl rfl rfl x_fit_arr (x_dk dl_9_0_ok 29 rfl))))
  (x_Lok (x_rt (I := xJ) (k := 0) ⟨(x_dk dl_9_0_ok 30 rfl), rfl⟩)))))))
def tb_9 : Nat → xE := tb_9_0
theorem tb_9_ok (K : xKx) (hK : x_KP K) : ∀ pc, x_EOq cls K xJ mq_9 pc (tb_9 pc) := tb_9_0_ok K hK
def dl_10_0 : List (Nat × Instr × Nat) := [(0, .aload_n 0, 1), (1, .iconst 0, 1), (2, .putfield 34, 3), (5, .iconst 0, 1), (6, .istore_n 1, 1), (7, .iload_n 1, 1), (8, .bipush 8, 2), (10, .if_icmp .ge 16, 3), (13, .aload_n 0, 1), (14, .getfield 18, 3), (17, .iload_n 1, 1), (18, .iconst 0, 1), (19, .bastore, 1), (20, .iinc 1 1, 3), (23, .goto (-16), 3), (26, .return_, 1)]
set_option maxRecDepth 20000 in
theorem dl_10_0_ok : dl_10_0.all (fun q => decide (decode prog_4_method_2_code q.1 = .ok (q.2.1, q.2.2))) = true := xa_g_ok (by decide +kernel)
def tb_10_0 : Nat → xE := (x_T 10 (x_T 5 (x_T 1 (x_T 0 (x_L 0 (0, xi_load 0 2 1, 0, 0)) (x_L 1 (0, xi_push (0, 0, 0) 2, 0, 0))) (x_T 2 (x_L 2 (0, xi_putf 2 2 0 5, 0, 0)) (x_L 5 (0, xi_push (0, 0, 0) 6, 0, 0)))) (x_T 7 (x_T 6 (x_L 6 (0, xi_stor 1 0 7, 0, 0)) (x_L 7 (0, xi_load 1 0 8, 0, 0))) (x_T 8 (x_L 8 (0, xi_push (0, 8, 8) 10, 0, 0)) (x_L 10 (0, xi_if2 3 26 13, 0, 0))))) (x_T 18 (x_T 14 (x_T 13 (x_L 13 (0, xi_load 0 2 14, 0, 0)) (x_L 14 (0, xi_getf 2 10 17, 0, 0))) (x_T 17 (x_L 17 (0, xi_load 1 0 18, 0, 0)) (x_L 18 (0, xi_push (0, 0, 0) 19, 0, 0)))) (x_T 20 (x_T 19 (x_L 19 (0, xi_ast true 20, 0, 0)) (x_L 20 (0, xi_inc 1 1 23, 0, 0))) (x_T 23 (x_L 23 (0, xi_goto 7, 0, 0)) (x_L 26 (1, x_nof, 0, 0))))))
set_option maxRecDepth 20000 in
set_option maxHeartbeats 4000000 in
theorem tb_10_0_ok (K : xKx) (hK : x_KP K) : ∀ pc, x_EOq cls K xJ mq_10 pc (tb_10_0 pc) :=
  (x_Tok2
  (x_Tok2
  (x_Tok2
  (x_Tok2
  (x_Lok (x_st (I := xJ) (xr_aload_n (i := 0) (x_dk dl_10_0_ok 0 rfl))))
  (x_Lok (x_st (I := xJ) (xr_iconst (n := 0) (z := 0) (v := 0) (x_dk dl_10_0_ok 1 rfl) (by decide) (by decide)))))
  (x_Tok2
  (x_Lok (x_st (I := xJ) (xr_putf (ci := 2) (k := 2) (ix := 34) (N := 15) (fk := 0) (C := RX2) (T := TX2) (ty0 := tyX2) (ty := .int) rfl in_X2 tyX2_ok nmX2 (by decide) (in_t2 (List.mem_of_getElem? (i := 17) rfl) rfl) rfl rfl x_fit_int (x_dk dl_10_0_ok 2 rfl))))
  (x_Lok (x_st (I := xJ) (xr_iconst (n := 0) (z := 0) (v := 0) (x_dk dl_10_0_ok 3 rfl) (by decide) (by decide))))))
  (x_Tok2
  (x_Tok2
  (x_Lok (x_st (I := xJ) (xr_istore_n (i := 1) (x_dk dl_10_0_ok 4 rfl) (by decide +kernel))))
  (x_Lok (x_st (I := xJ) (xr_iload_n (i := 1) (x_dk dl_10_0_ok 5 rfl)))))
  (x_Tok2
  (x_Lok (x_st (I := xJ) (xr_bipush (n := 8) (z := 8) (v := 8) (x_dk dl_10_0_ok 6 rfl) (by decide) (by decide))))
  (x_Lok (x_st (I := xJ) (xr_icmpge (off := 16) (tg := 26) (x_dk dl_10_0_ok 7 rfl) (by decide)))))))
  (x_Tok2
  (x_Tok2
  (x_Tok2
  (x_Lok (x_st (I := xJ) (xr_aload_n (i := 0) (x_dk dl_10_0_ok 8 rfl))))
  (x_Lok (x_st (I := xJ) (xr_getf (ci := 2) (k := 10) (ix := 18) (N := 15) (C := RX2) (T := TX2) rfl in_X2 (by decide) (in_t2 (List.mem_of_getElem? (i := 35) rfl) rfl) (x_dk dl_10_0_ok 9 rfl)))))
  (x_Tok2
  (x_Lok (x_st (I := xJ) (xr_iload_n (i := 1) (x_dk dl_10_0_ok 10 rfl))))
  (x_Lok (x_st (I := xJ) (xr_iconst (n := 0) (z := 0) (v := 0) (x_dk dl_10_0_ok 11 rfl) (by decide) (by decide))))))
  (x_Tok2
  (x_Tok2
  (x_Lok (x_st (I := xJ) (xr_bastore (x_dk dl_10_0_ok 12 rfl))))
  (x_Lok (x_st (I := xJ) (xr_iinc (i := 1) (n := 1) (x_dk dl_10_0_ok 13 rfl) (by decide +kernel) (by decide)))))
  (x_Tok2
  (x_Lok (x_st (I := xJ) (xr_goto (off := (-16)) (tg := 7) (x_dk dl_10_0_ok 14 rfl) (by decide))))
  (x_Lok (x_rt (I := xJ) (k := 0) ⟨(x_dk dl_10_0_ok 15 rfl), rfl⟩))))))
def tb_10 : Nat → xE := tb_10_0
theorem tb_10_ok (K : xKx) (hK : x_KP K) : ∀ pc, x_EOq cls K xJ mq_10 pc (tb_10 pc) := tb_10_0_ok K hK
def dl_11_0 : List (Nat × Instr × Nat) := [(0, .aload_n 0, 1), (1, .iconst 0, 1), (2, .putfield 38, 3), (5, .aload_n 0, 1), (6, .iconst 0, 1), (7, .putfield 41, 3), (10, .aload_n 0, 1), (11, .iconst 0, 1), (12, .putfield 44, 3), (15, .aload_n 0, 1), (16, .iconst 0, 1), (17, .putfield 48, 3), (20, .aload_n 0, 1), (21, .iconst 0, 1), (22, .putfield 51, 3), (25, .aload_n 0, 1), (26, .iconst 0, 1), (27, .putfield 54, 3), (30, .aload_n 0, 1), (31, .iconst 0, 1), (32, .putfield 57, 3), (35, .iconst 0, 1), (36, .istore_n 1, 1), (37, .iload_n 1, 1), (38, .bipush 8, 2), (40, .if_icmp .ge 37, 3), (43, .aload_n 0, 1), (44, .getfield 22, 3), (47, .iload_n 1, 1), (48, .iconst 1, 1), (49, .bastore, 1), (50, .aload_n 0, 1), (51, .getfield 25, 3), (54, .iload_n 1, 1), (55, .iconst 1, 1), (56, .bastore, 1), (57, .aload_n 0, 1), (58, .getfield 28, 3), (61, .iload_n 1, 1), (62, .iconst 0, 1), (63, .bastore, 1), (64, .aload_n 0, 1), (65, .getfield 31, 3), (68, .iload_n 1, 1), (69, .iconst 0, 1), (70, .iastore, 1), (71, .iinc 1 1, 3), (74, .goto (-37), 3), (77, .return_, 1)]
set_option maxRecDepth 20000 in
theorem dl_11_0_ok : dl_11_0.all (fun q => decide (decode prog_4_method_3_code q.1 = .ok (q.2.1, q.2.2))) = true := xa_g_ok (by decide +kernel)
def tb_11_0 : Nat → xE := (x_T 17 (x_T 7 (x_T 2 (x_T 0 (x_L 0 (0, xi_load 0 2 1, 0, 0)) (x_T 1 (x_L 1 (0, xi_push (0, 0, 0) 2, 0, 0)) (x_L 2 (0, xi_putf 2 0 0 5, 0, 0)))) (x_T 5 (x_L 5 (0, xi_load 0 2 6, 0, 0)) (x_T 6 (x_L 6 (0, xi_push (0, 0, 0) 7, 0, 0)) (x_L 7 (0, xi_putf 2 1 0 10, 0, 0))))) (x_T 12 (x_T 10 (x_L 10 (0, xi_load 0 2 11, 0, 0)) (x_T 11 (x_L 11 (0, xi_push (0, 0, 0) 12, 0, 0)) (x_L 12 (0, xi_putf 2 3 1 15, 0, 0)))) (x_T 15 (x_L 15 (0, xi_load 0 2 16, 0, 0)) (x_T 16 (x_L 16 (0, xi_push (0, 0, 0) 17, 0, 0)) (x_L 17 (0, xi_putf 2 4 0 20, 0, 0)))))) (x_T 27 (x_T 22 (x_T 20 (x_L 20 (0, xi_load 0 2 21, 0, 0)) (x_T 21 (x_L 21 (0, xi_push (0, 0, 0) 22, 0, 0)) (x_L 22 (0, xi_putf 2 5 0 25, 0, 0)))) (x_T 25 (x_L 25 (0, xi_load 0 2 26, 0, 0)) (x_T 26 (x_L 26 (0, xi_push (0, 0, 0) 27, 0, 0)) (x_L 27 (0, xi_putf 2 6 0 30, 0, 0))))) (x_T 32 (x_T 30 (x_L 30 (0, xi_load 0 2 31, 0, 0)) (x_T 31 (x_L 31 (0, xi_push (0, 0, 0) 32, 0, 0)) (x_L 32 (0, xi_putf 2 7 1 35, 0, 0)))) (x_T 35 (x_L 35 (0, xi_push (0, 0, 0) 36, 0, 0)) (x_T 36 (x_L 36 (0, xi_stor 1 0 37, 0, 0)) (x_L 37 (0, xi_load 1 0 38, 0, 0)))))))
set_option maxRecDepth 20000 in
set_option maxHeartbeats 4000000 in
theorem tb_11_0_ok (K : xKx) (hK : x_KP K) : ∀ pc, x_EOq cls K xJ mq_11 pc (tb_11_0 pc) :=
  (x_Tok2
  (x_Tok2
  (x_Tok2
  (x_Tok2
  (x_Lok (x_st (I := xJ) (xr_aload_n (i := 0) (x_dk dl_11_0_ok 0 rfl))))
  (x_Tok2
  (x_Lok (x_st (I := xJ) (xr_iconst (n := 0) (z := 0) (v := 0) (x_dk dl_11_0_ok 1 rfl) (by decide) (by decide))))
  (x_Lok (x_st (I := xJ) (xr_putf (ci := 2) (k := 0) (ix := 38) (N := 15) (fk := 0) (C := RX2) (T := TX2) (ty0 := tyX2) (ty := .int) rfl in_X2 tyX2_ok nmX2 (by decide) (in_t2 (List.mem_of_getElem? (i := 12) rfl) rfl) rfl rfl x_fit_int (x_dk dl_11_0_ok 2 rfl))))))
  (x_Tok2
  (x_Lok (x_st (I := xJ) (xr_aload_n (i := 0) (x_dk dl_11_0_ok 3 rfl))))
  (x_Tok2
  (x_Lok (x_st (I := xJ) (xr_iconst (n := 0) (z := 0) (v := 0) (x_dk dl_11_0_ok 4 rfl) (by decide) (by decide))))
  (x_Lok (x_st (I := xJ) (xr_putf (ci := 2) (k := 1) (ix := 41) (N := 15) (fk := 0) (C := RX2) (T := TX2) (ty0 := tyX2) (ty := .int) rfl in_X2 tyX2_ok nmX2 (by decide) (in_t2 (List.mem_of_getElem? (i := 15) rfl) rfl) rfl rfl x_fit_int (x_dk dl_11_0_ok 5 rfl)))))))
  (x_Tok2
  (x_Tok2
  (x_Lok (x_st (I := xJ) (xr_aload_n (i := 0) (x_dk dl_11_0_ok 6 rfl))))
  (x_Tok2
  (x_Lok (x_st (I := xJ) (xr_iconst (n := 0) (z := 0) (v := 0) (x_dk dl_11_0_ok 7 rfl) (by decide) (by decide))))
  (x_Lok (x_st (I := xJ) (xr_putf (ci := 2) (k := 3) (ix := 44) (N := 15) (fk := 1) (C := RX2) (T := TX2) (ty0 := tyX2) (ty := .boolean) rfl in_X2 tyX2_ok nmX2 (by decide) (in_t2 (List.mem_of_getElem? (i := 19) rfl) rfl) rfl rfl x_fit_bool (x_dk dl_11_0_ok 8 rfl))))))
  (x_Tok2
  (x_Lok (x_st (I := xJ) (xr_aload_n (i := 0) (x_dk dl_11_0_ok 9 rfl))))
  (x_Tok2
  (x_Lok (x_st (I := xJ) (xr_iconst (n := 0) (z := 0) (v := 0) (x_dk dl_11_0_ok 10 rfl) (by decide) (by decide))))
  (x_Lok (x_st (I := xJ) (xr_putf (ci := 2) (k := 4) (ix := 48) (N := 15) (fk := 0) (C := RX2) (T := TX2) (ty0 := tyX2) (ty := .int) rfl in_X2 tyX2_ok nmX2 (by decide) (in_t2 (List.mem_of_getElem? (i := 22) rfl) rfl) rfl rfl x_fit_int (x_dk dl_11_0_ok 11 rfl))))))))
  (x_Tok2
  (x_Tok2
  (x_Tok2
  (x_Lok (x_st (I := xJ) (xr_aload_n (i := 0) (x_dk dl_11_0_ok 12 rfl))))
  (x_Tok2
  (x_Lok (x_st (I := xJ) (xr_iconst (n := 0) (z := 0) (v := 0) (x_dk dl_11_0_ok 13 rfl) (by decide) (by decide))))
  (x_Lok (x_st (I := xJ) (xr_putf (ci := 2) (k := 5) (ix := 51) (N := 15) (fk := 0) (C := RX2) (T := TX2) (ty0 := tyX2) (ty := .int) rfl in_X2 tyX2_ok nmX2 (by decide) (in_t2 (List.mem_of_getElem? (i := 24) rfl) rfl) rfl rfl x_fit_int (x_dk dl_11_0_ok 14 rfl))))))
  (x_Tok2
  (x_Lok (x_st (I := xJ) (xr_aload_n (i := 0) (x_dk dl_11_0_ok 15 rfl))))
  (x_Tok2
  (x_Lok (x_st (I := xJ) (xr_iconst (n := 0) (z := 0) (v := 0) (x_dk dl_11_0_ok 16 rfl) (by decide) (by decide))))
  (x_Lok (x_st (I := xJ) (xr_putf (ci := 2) (k := 6) (ix := 54) (N := 15) (fk := 0) (C := RX2) (T := TX2) (ty0 := tyX2) (ty := .int) rfl in_X2 tyX2_ok nmX2 (by decide) (in_t2 (List.mem_of_getElem? (i := 26) rfl) rfl) rfl rfl x_fit_int (x_dk dl_11_0_ok 17 rfl)))))))
  (x_Tok2
  (x_Tok2
  (x_Lok (x_st (I := xJ) (xr_aload_n (i := 0) (x_dk dl_11_0_ok 18 rfl))))
  (x_Tok2
  (x_Lok (x_st (I := xJ) (xr_iconst (n := 0) (z := 0) (v := 0) (x_dk dl_11_0_ok 19 rfl) (by decide) (by decide))))
  (x_Lok (x_st (I := xJ) (xr_putf (ci := 2) (k := 7) (ix := 57) (N := 15) (fk := 1) (C := RX2) (T := TX2) (ty0 := tyX2) (ty := .boolean) rfl in_X2 tyX2_ok nmX2 (by decide) (in_t2 (List.mem_of_getElem? (i := 28) rfl) rfl) rfl rfl x_fit_bool (x_dk dl_11_0_ok 20 rfl))))))
  (x_Tok2
  (x_Lok (x_st (I := xJ) (xr_iconst (n := 0) (z := 0) (v := 0) (x_dk dl_11_0_ok 21 rfl) (by decide) (by decide))))
  (x_Tok2
  (x_Lok (x_st (I := xJ) (xr_istore_n (i := 1) (x_dk dl_11_0_ok 22 rfl) (by decide +kernel))))
  (x_Lok (x_st (I := xJ) (xr_iload_n (i := 1) (x_dk dl_11_0_ok 23 rfl)))))))))
def tb_11_24 : Nat → xE := (x_T 56 (x_T 48 (x_T 43 (x_T 38 (x_L 38 (0, xi_push (0, 8, 8) 40, 0, 0)) (x_T 40 (x_L 40 (0, xi_if2 3 77 43, 0, 0)) (x_L 43 (0, xi_load 0 2 44, 0, 0)))) (x_T 44 (x_L 44 (0, xi_getf 2 11 47, 0, 0)) (x_T 47 (x_L 47 (0, xi_load 1 0 48, 0, 0)) (x_L 48 (0, xi_push (0, 1, 1) 49, 0, 0))))) (x_T 51 (x_T 49 (x_L 49 (0, xi_ast true 50, 0, 0)) (x_T 50 (x_L 50 (0, xi_load 0 2 51, 0, 0)) (x_L 51 (0, xi_getf 2 12 54, 0, 0)))) (x_T 54 (x_L 54 (0, xi_load 1 0 55, 0, 0)) (x_T 55 (x_L 55 (0, xi_push (0, 1, 1) 56, 0, 0)) (x_L 56 (0, xi_ast true 57, 0, 0)))))) (x_T 64 (x_T 61 (x_T 57 (x_L 57 (0, xi_load 0 2 58, 0, 0)) (x_T 58 (x_L 58 (0, xi_getf 2 13 61, 0, 0)) (x_L 61 (0, xi_load 1 0 62, 0, 0)))) (x_T 62 (x_L 62 (0, xi_push (0, 0, 0) 63, 0, 0)) (x_T 63 (x_L 63 (0, xi_ast true 64, 0, 0)) (x_L 64 (0, xi_load 0 2 65, 0, 0))))) (x_T 69 (x_T 65 (x_L 65 (0, xi_getf 2 14 68, 0, 0)) (x_T 68 (x_L 68 (0, xi_load 1 0 69, 0, 0)) (x_L 69 (0, xi_push (0, 0, 0) 70, 0, 0)))) (x_T 71 (x_T 70 (x_L 70 (0, xi_ast false 71, 0, 0)) (x_L 71 (0, xi_inc 1 1 74, 0, 0))) (x_T 74 (x_L 74 (0, xi_goto 37, 0, 0)) (x_L 77 (1, x_nof, 0, 0)))))))
set_option maxRecDepth 20000 in
set_option maxHeartbeats 4000000 in
theorem tb_11_24_ok (K : xKx) (hK : x_KP K) : ∀ pc, x_EOq cls K xJ mq_11 pc (tb_11_24 pc) :=
  (x_Tok2
  (x_Tok2
  (x_Tok2
  (x_Tok2
  (x_Lok (x_st (I := xJ) (xr_bipush (n := 8) (z := 8) (v := 8) (x_dk dl_11_0_ok 24 rfl) (by decide) (by decide))))
  (x_Tok2
  (x_Lok (x_st (I := xJ) (xr_icmpge (off := 37) (tg := 77) (x_dk dl_11_0_ok 25 rfl) (by decide))))
  (x_Lok (x_st (I := xJ) (xr_aload_n (i := 0) (x_dk dl_11_0_ok 26 rfl))))))
  (x_Tok2
  (x_Lok (x_st (I := xJ) (xr_getf (ci := 2) (k := 11) (ix := 22) (N := 15) (C := RX2) (T := TX2) rfl in_X2 (by decide) (in_t2 (List.mem_of_getElem? (i := 37) rfl) rfl) (x_dk dl_11_0_ok 27 rfl))))
  (x_Tok2
  (x_Lok (x_st (I := xJ) (xr_iload_n (i := 1) (x_dk dl_11_0_ok 28 rfl))))
  (x_Lok (x_st (I := xJ) (xr_iconst (n := 1) (z := 1) (v := 1) (x_dk dl_11_0_ok 29 rfl) (by decide) (by decide)))))))
  (x_Tok2
  (x_Tok2
  (x_Lok (x_st (I := xJ) (xr_bastore (x_dk dl_11_0_ok 30 rfl))))
  (x_Tok2
  (x_Lok (x_st (I := xJ) (xr_aload_n (i := 0) (x_dk dl_11_0_ok 31 rfl))))
  (x_Lok (x_st (I := xJ) (xr_getf (ci := 2) (k := 12) (ix := 25) (N := 15) (C := RX2) (T := TX2) rfl in_X2 (by decide) (in_t2 (List.mem_of_getElem? (i := 38) rfl) rfl) (x_dk dl_11_0_ok 32 rfl))))))
  (x_Tok2
  (x_Lok (x_st (I := xJ) (xr_iload_n (i := 1) (x_dk dl_11_0_ok 33 rfl))))
  (x_Tok2
  (x_Lok (x_st (I := xJ) (xr_iconst (n := 1) (z := 1) (v := 1) (x_dk dl_11_0_ok 34 rfl) (by decide) (by decide))))
  (x_Lok (x_st (I := xJ) (xr_bastore (x_dk dl_11_0_ok 35 rfl))))))))
  (x_Tok2
  (x_Tok2
  (x_Tok2
  (x_Lok (x_st (I := xJ) (xr_aload_n (i := 0) (x_dk dl_11_0_ok 36 rfl))))
  (x_Tok2
  (x_Lok (x_st (I := xJ) (xr_getf (ci := 2) (k := 13) (ix := 28) (N := 15) (C := RX2) (T := TX2) rfl in_X2 (by decide) (in_t2 (List.mem_of_getElem? (i := 39) rfl) rfl) (x_dk dl_11_0_ok 37 rfl))))
  (x_Lok (x_st (I := xJ) (xr_iload_n (i := 1) (x_dk dl_11_0_ok 38 rfl))))))
  (x_Tok2
  (x_Lok (x_st (I := xJ) (xr_iconst (n := 0) (z := 0) (v := 0) (x_dk dl_11_0_ok 39 rfl) (by decide) (by decide))))
  (x_Tok2
  (x_Lok (x_st (I := xJ) (xr_bastore (x_dk dl_11_0_ok 40 rfl))))
  (x_Lok (x_st (I := xJ) (xr_aload_n (i := 0) (x_dk dl_11_0_ok 41 rfl)))))))
  (x_Tok2
  (x_Tok2
  (x_Lok (x_st (I := xJ) (xr_getf (ci := 2) (k := 14) (ix := 31) (N := 15) (C := RX2) (T := TX2) rfl in_X2 (by decide) (in_t2 (List.mem_of_getElem? (i := 40) rfl) rfl) (x_dk dl_11_0_ok 42 rfl))))
  (x_Tok2
  (x_Lok (x_st (I := xJ) (xr_iload_n (i := 1) (x_dk dl_11_0_ok 43 rfl))))
  (x_Lok (x_st (I := xJ) (xr_iconst (n := 0) (z := 0) (v := 0) (x_dk dl_11_0_ok 44 rfl) (by decide) (by decide))))))
  (x_Tok2
  (x_Tok2
  (x_Lok (x_st (I := xJ) (xr_iastore (x_dk dl_11_0_ok 45 rfl))))
  (x_Lok (x_st (I := xJ) (xr_iinc (i := 1) (n := 1) (x_dk dl_11_0_ok 46 rfl) (by decide +kernel) (by decide)))))
  (x_Tok2
  (x_Lok (x_st (I := xJ) (xr_goto (off := (-37)) (tg := 37) (x_dk dl_11_0_ok 47 rfl) (by decide))))
  (x_Lok (x_rt (I := xJ) (k := 0) ⟨(x_dk dl_11_0_ok 48 rfl), rfl⟩)))))))
def tb_11 : Nat → xE := (x_T 37 tb_11_0 tb_11_24)
theorem tb_11_ok (K : xKx) (hK : x_KP K) : ∀ pc, x_EOq cls K xJ mq_11 pc (tb_11 pc) := (x_Tok2 (tb_11_0_ok K hK) (tb_11_24_ok K hK))
def dl_12_0 : List (Nat × Instr × Nat) := [(0, .aload_n 0, 1), (1, .invokespecial 3, 3), (4, .aload_n 0, 1), (5, .iconst 4, 1), (6, .anewarray 9, 3), (9, .putfield 11, 3), (12, .aload_n 0, 1), (13, .new 17, 3), (16, .dup, 1), (17, .invokespecial 19, 3), (20, .putfield 20, 3), (23, .aload_n 0, 1), (24, .new 24, 3), (27, .dup, 1), (28, .invokespecial 26, 3), (31, .putfield 27, 3), (34, .aload_n 0, 1), (35, .new 31, 3), (38, .dup, 1), (39, .invokespecial 33, 3), (42, .putfield 34, 3), (45, .aload_n 0, 1), (46, .bipush 16, 2), (48, .anewarray 38, 3), (51, .putfield 40, 3), (54, .aload_n 0, 1), (55, .bipush 8, 2), (57, .newarray .int, 2), (59, .putfield 44, 3), (62, .aload_n 0, 1), (63, .sipush 128, 3), (66, .newarray .int, 2), (68, .putfield 48, 3), (71, .aload_n 0, 1), (72, .bipush 6, 2), (74, .newarray .int, 2), (76, .putfield 51, 3), (79, .iconst 0, 1), (80, .istore_n 1, 1), (81, .iload_n 1, 1), (82, .iconst 4, 1), (83, .if_icmp .ge 22, 3), (86, .aload_n 0, 1), (87, .getfield 11, 3), (90, .iload_n 1, 1), (91, .new 9, 3), (94, .dup, 1), (95, .invokespecial 54, 3), (98, .aastore, 1), (99, .iinc 1 1, 3), (102, .goto (-21), 3), (105, .iconst 0, 1), (106, .istore_n 1, 1), (107, .iload_n 1, 1), (108, .bipush 16, 2), (110, .if_icmp .ge 23, 3), (113, .aload_n 0, 1), (114, .getfield 40, 3), (117, .iload_n 1, 1), (118, .new 38, 3), (121, .dup, 1), (122, .iload_n 1, 1), (123, .invokespecial 55, 3), (126, .aastore, 1), (127, .iinc 1 1, 3), (130, .goto (-23), 3), (133, .return_, 1)]
set_option maxRecDepth 20000 in
theorem dl_12_0_ok : dl_12_0.all (fun q => decide (decode prog_5_method_1_code q.1 = .ok (q.2.1, q.2.2))) = true := xa_g_ok (by decide +kernel)
def tb_12_0 : Nat → xE := (x_T 31 (x_T 13 (x_T 5 (x_T 1 (x_T 0 (x_L 0 (0, xi_load 0 2 1, 0, 0)) (x_L 1 (0, xi_oi 4, 0, 0))) (x_T 4 (x_L 4 (0, xi_load 0 2 5, 0, 0)) (x_L 5 (0, xi_push (0, 4, 4) 6, 0, 0)))) (x_T 9 (x_T 6 (x_L 6 (0, xi_newa 5 0 (2, 0, 0) (xm_c mq_12) (xm_s mq_12) 9, 0, 0)) (x_L 9 (0, xi_putf 3 0 2 12, 0, 0))) (x_T 12 (x_L 12 (0, xi_load 0 2 13, 0, 0)) (x_L 13 (0, xi_new (x_nc 7 ks_X7) (xm_c mq_12) (xm_s mq_12) 16, 0, 0))))) (x_T 23 (x_T 17 (x_T 16 (x_L 16 (0, xi_stk xf_dup 17, 0, 0)) (x_L 17 (2, x_nof, 18, 1))) (x_T 20 (x_L 20 (0, xi_putf 3 1 2 23, 0, 0)) (x_L 23 (0, xi_load 0 2 24, 0, 0)))) (x_T 27 (x_T 24 (x_L 24 (0, xi_new (x_nc 4 ks_X4) (xm_c mq_12) (xm_s mq_12) 27, 0, 0)) (x_L 27 (0, xi_stk xf_dup 28, 0, 0))) (x_T 28 (x_L 28 (2, x_nof, 14, 1)) (x_L 31 (0, xi_putf 3 2 2 34, 0, 0)))))) (x_T 48 (x_T 39 (x_T 35 (x_T 34 (x_L 34 (0, xi_load 0 2 35, 0, 0)) (x_L 35 (0, xi_new (x_nc 2 ks_X2) (xm_c mq_12) (xm_s mq_12) 38, 0, 0))) (x_T 38 (x_L 38 (0, xi_stk xf_dup 39, 0, 0)) (x_L 39 (2, x_nof, 9, 1)))) (x_T 45 (x_T 42 (x_L 42 (0, xi_putf 3 3 2 45, 0, 0)) (x_L 45 (0, xi_load 0 2 46, 0, 0))) (x_T 46 (x_L 46 (0, xi_push (0, 16, 16) 48, 0, 0)) (x_L 48 (0, xi_newa 5 10 (2, 0, 0) (xm_c mq_12) (xm_s mq_12) 51, 0, 0))))) (x_T 57 (x_T 54 (x_T 51 (x_L 51 (0, xi_putf 3 4 2 54, 0, 0)) (x_L 54 (0, xi_load 0 2 55, 0, 0))) (x_T 55 (x_L 55 (0, xi_push (0, 8, 8) 57, 0, 0)) (x_L 57 (0, xi_newa 1 0 (0, 0, 0) (xm_c mq_12) (xm_s mq_12) 59, 0, 0)))) (x_T 62 (x_T 59 (x_L 59 (0, xi_putf 3 5 2 62, 0, 0)) (x_L 62 (0, xi_load 0 2 63, 0, 0))) (x_T 63 (x_L 63 (0, xi_push (0, 128, 128) 66, 0, 0)) (x_T 66 (x_L 66 (0, xi_newa 1 0 (0, 0, 0) (xm_c mq_12) (xm_s mq_12) 68, 0, 0)) (x_L 68 (0, xi_putf 3 6 2 71, 0, 0))))))))
set_option maxRecDepth 20000 in
set_option maxHeartbeats 4000000 in
theorem tb_12_0_ok (K : xKx) (hK : x_KP K) : ∀ pc, x_EOq cls K xJ mq_12 pc (tb_12_0 pc) :=
  (x_Tok2
  (x_Tok2
  (x_Tok2
  (x_Tok2
  (x_Tok2
  (x_Lok (x_st (I := xJ) (xr_aload_n (i := 0) (x_dk dl_12_0_ok 0 rfl))))
  (x_Lok (x_st (I := xJ) (xr_oi (ix := 3) (in_t1 (List.mem_of_getElem? (i := 127) rfl) rfl) (in_t1 (List.mem_of_getElem? (i := 27) rfl) rfl) (in_t1 (List.mem_of_getElem? (i := 28) rfl) rfl) (x_dk dl_12_0_ok 1 rfl)))))
  (x_Tok2
  (x_Lok (x_st (I := xJ) (xr_aload_n (i := 0) (x_dk dl_12_0_ok 2 rfl))))
  (x_Lok (x_st (I := xJ) (xr_iconst (n := 4) (z := 4) (v := 4) (x_dk dl_12_0_ok 3 rfl) (by decide) (by decide))))))
  (x_Tok2
  (x_Tok2
  (x_Lok (x_st (I := xJ) (xr_newq (ci := 0) (ix := 9) (r := (RX0, TX0, 20)) rfl (in_t1 (List.mem_of_getElem? (i := 128) rfl) rfl) (fun U h => h.1.2.1) (x_dk dl_12_0_ok 4 rfl))))
  (x_Lok (x_st (I := xJ) (xr_putF (ci := 3) (k := 0) (ix := 11) (N := 12) (fk := 2) (C := RX3) (T := TX3) (ty0 := tyX3) (ty := .array (.object "RobotCellHouse$Arm")) rfl in_X3 tyX3_ok nmX3 (by decide) (in_t3 (List.mem_of_getElem? (i := 88) rfl) rfl) rfl rfl rfl rfl x_fit_arr (x_dk dl_12_0_ok 5 rfl)))))
  (x_Tok2
  (x_Lok (x_st (I := xJ) (xr_aload_n (i := 0) (x_dk dl_12_0_ok 6 rfl))))
  (x_Lok (x_st (I := xJ) (xr_new (ci := 7) (ix := 17) (N := 8) (C := RX7) (T := TX7) (ty0 := tyX7) (ks := ks_X7) rfl in_X7 tyX7_ok (in_t1 (List.mem_of_getElem? (i := 130) rfl) rfl) (in_t1 (List.mem_of_getElem? (i := 131) rfl) rfl) (in_t1 (List.mem_of_getElem? (i := 5) rfl) rfl) rfl df_X7 (x_dk dl_12_0_ok 7 rfl)))))))
  (x_Tok2
  (x_Tok2
  (x_Tok2
  (x_Lok (x_st (I := xJ) (xr_dup (x_dk dl_12_0_ok 8 rfl))))
  (x_Lok (x_ca (I := xJ) (q' := mq_18) rfl (xr_callIN (q' := mq_18) (ix := 19) (n := 0) (host := "RobotCellHouse") (in_t1 (List.mem_of_getElem? (i := 134) rfl) rfl) good_w (in_t1 (List.mem_of_getElem? (i := 5) rfl) rfl) (List.mem_of_getElem? (i := 2) rfl) (in_t1 (List.mem_of_getElem? (i := 133) rfl) rfl) rfl rfl (by decide +kernel) (by decide +kernel) (by decide +kernel) (x_dk dl_12_0_ok 9 rfl)))))
  (x_Tok2
  (x_Lok (x_st (I := xJ) (xr_putF (ci := 3) (k := 1) (ix := 20) (N := 12) (fk := 2) (C := RX3) (T := TX3) (ty0 := tyX3) (ty := .object "RobotCellHouse$Points") rfl in_X3 tyX3_ok nmX3 (by decide) (in_t3 (List.mem_of_getElem? (i := 90) rfl) rfl) rfl rfl rfl rfl x_fit_obj (x_dk dl_12_0_ok 10 rfl))))
  (x_Lok (x_st (I := xJ) (xr_aload_n (i := 0) (x_dk dl_12_0_ok 11 rfl))))))
  (x_Tok2
  (x_Tok2
  (x_Lok (x_st (I := xJ) (xr_new (ci := 4) (ix := 24) (N := 20) (C := RX4) (T := TX4) (ty0 := tyX4) (ks := ks_X4) rfl in_X4 tyX4_ok (in_t1 (List.mem_of_getElem? (i := 167) rfl) rfl) (in_t1 (List.mem_of_getElem? (i := 168) rfl) rfl) (in_t1 (List.mem_of_getElem? (i := 6) rfl) rfl) rfl df_X4 (x_dk dl_12_0_ok 12 rfl))))
  (x_Lok (x_st (I := xJ) (xr_dup (x_dk dl_12_0_ok 13 rfl)))))
  (x_Tok2
  (x_Lok (x_ca (I := xJ) (q' := mq_14) rfl (xr_callIN (q' := mq_14) (ix := 26) (n := 0) (host := "RobotCellHouse") (in_t1 (List.mem_of_getElem? (i := 171) rfl) rfl) good_w (in_t1 (List.mem_of_getElem? (i := 6) rfl) rfl) (List.mem_of_getElem? (i := 3) rfl) (in_t1 (List.mem_of_getElem? (i := 170) rfl) rfl) rfl rfl (by decide +kernel) (by decide +kernel) (by decide +kernel) (x_dk dl_12_0_ok 14 rfl))))
  (x_Lok (x_st (I := xJ) (xr_putF (ci := 3) (k := 2) (ix := 27) (N := 12) (fk := 2) (C := RX3) (T := TX3) (ty0 := tyX3) (ty := .object "RobotCellHouse$Floor") rfl in_X3 tyX3_ok nmX3 (by decide) (in_t3 (List.mem_of_getElem? (i := 92) rfl) rfl) rfl rfl rfl rfl x_fit_obj (x_dk dl_12_0_ok 15 rfl))))))))
  (x_Tok2
  (x_Tok2
  (x_Tok2
  (x_Tok2
  (x_Lok (x_st (I := xJ) (xr_aload_n (i := 0) (x_dk dl_12_0_ok 16 rfl))))
  (x_Lok (x_st (I := xJ) (xr_new (ci := 2) (ix := 31) (N := 15) (C := RX2) (T := TX2) (ty0 := tyX2) (ks := ks_X2) rfl in_X2 tyX2_ok (in_t2 (List.mem_of_getElem? (i := 6) rfl) rfl) (in_t2 (List.mem_of_getElem? (i := 7) rfl) rfl) (in_t1 (List.mem_of_getElem? (i := 7) rfl) rfl) rfl df_X2 (x_dk dl_12_0_ok 17 rfl)))))
  (x_Tok2
  (x_Lok (x_st (I := xJ) (xr_dup (x_dk dl_12_0_ok 18 rfl))))
  (x_Lok (x_ca (I := xJ) (q' := mq_9) rfl (xr_callIN (q' := mq_9) (ix := 33) (n := 0) (host := "RobotCellHouse") (in_t2 (List.mem_of_getElem? (i := 10) rfl) rfl) good_w (in_t1 (List.mem_of_getElem? (i := 7) rfl) rfl) (List.mem_of_getElem? (i := 4) rfl) (in_t2 (List.mem_of_getElem? (i := 9) rfl) rfl) rfl rfl (by decide +kernel) (by decide +kernel) (by decide +kernel) (x_dk dl_12_0_ok 19 rfl))))))
  (x_Tok2
  (x_Tok2
  (x_Lok (x_st (I := xJ) (xr_putF (ci := 3) (k := 3) (ix := 34) (N := 12) (fk := 2) (C := RX3) (T := TX3) (ty0 := tyX3) (ty := .object "RobotCellHouse$Core") rfl in_X3 tyX3_ok nmX3 (by decide) (in_t3 (List.mem_of_getElem? (i := 94) rfl) rfl) rfl rfl rfl rfl x_fit_obj (x_dk dl_12_0_ok 20 rfl))))
  (x_Lok (x_st (I := xJ) (xr_aload_n (i := 0) (x_dk dl_12_0_ok 21 rfl)))))
  (x_Tok2
  (x_Lok (x_st (I := xJ) (xr_bipush (n := 16) (z := 16) (v := 16) (x_dk dl_12_0_ok 22 rfl) (by decide) (by decide))))
  (x_Lok (x_st (I := xJ) (xr_newq (ci := 10) (ix := 38) (r := (RX10, TX10, 21)) rfl (in_t2 (List.mem_of_getElem? (i := 72) rfl) rfl) (fun U h => h.1.2.2) (x_dk dl_12_0_ok 23 rfl)))))))
  (x_Tok2
  (x_Tok2
  (x_Tok2
  (x_Lok (x_st (I := xJ) (xr_putF (ci := 3) (k := 4) (ix := 40) (N := 12) (fk := 2) (C := RX3) (T := TX3) (ty0 := tyX3) (ty := .array (.object "RobotCellHouse$Task")) rfl in_X3 tyX3_ok nmX3 (by decide) (in_t3 (List.mem_of_getElem? (i := 96) rfl) rfl) rfl rfl rfl rfl x_fit_arr (x_dk dl_12_0_ok 24 rfl))))
  (x_Lok (x_st (I := xJ) (xr_aload_n (i := 0) (x_dk dl_12_0_ok 25 rfl)))))
  (x_Tok2
  (x_Lok (x_st (I := xJ) (xr_bipush (n := 8) (z := 8) (v := 8) (x_dk dl_12_0_ok 26 rfl) (by decide) (by decide))))
  (x_Lok (x_st (I := xJ) (xr_newa (kd := 1) (b := false) (ty := .int) rfl rfl (in_t1 (List.mem_of_getElem? (i := 64) rfl) rfl) (x_dk dl_12_0_ok 27 rfl))))))
  (x_Tok2
  (x_Tok2
  (x_Lok (x_st (I := xJ) (xr_putF (ci := 3) (k := 5) (ix := 44) (N := 12) (fk := 2) (C := RX3) (T := TX3) (ty0 := tyX3) (ty := .array .int) rfl in_X3 tyX3_ok nmX3 (by decide) (in_t3 (List.mem_of_getElem? (i := 98) rfl) rfl) rfl rfl rfl rfl x_fit_arr (x_dk dl_12_0_ok 28 rfl))))
  (x_Lok (x_st (I := xJ) (xr_aload_n (i := 0) (x_dk dl_12_0_ok 29 rfl)))))
  (x_Tok2
  (x_Lok (x_st (I := xJ) (xr_sipush (n := 128) (z := 128) (v := 128) (x_dk dl_12_0_ok 30 rfl) (by decide) (by decide))))
  (x_Tok2
  (x_Lok (x_st (I := xJ) (xr_newa (kd := 1) (b := false) (ty := .int) rfl rfl (in_t1 (List.mem_of_getElem? (i := 64) rfl) rfl) (x_dk dl_12_0_ok 31 rfl))))
  (x_Lok (x_st (I := xJ) (xr_putF (ci := 3) (k := 6) (ix := 48) (N := 12) (fk := 2) (C := RX3) (T := TX3) (ty0 := tyX3) (ty := .array .int) rfl in_X3 tyX3_ok nmX3 (by decide) (in_t3 (List.mem_of_getElem? (i := 100) rfl) rfl) rfl rfl rfl rfl x_fit_arr (x_dk dl_12_0_ok 32 rfl))))))))))
def tb_12_33 : Nat → xE := (x_T 99 (x_T 82 (x_T 76 (x_T 72 (x_T 71 (x_L 71 (0, xi_load 0 2 72, 0, 0)) (x_L 72 (0, xi_push (0, 6, 6) 74, 0, 0))) (x_T 74 (x_L 74 (0, xi_newa 1 0 (0, 0, 0) (xm_c mq_12) (xm_s mq_12) 76, 0, 0)) (x_L 76 (0, xi_putf 3 7 2 79, 0, 0)))) (x_T 80 (x_T 79 (x_L 79 (0, xi_push (0, 0, 0) 80, 0, 0)) (x_L 80 (0, xi_stor 1 0 81, 0, 0))) (x_T 81 (x_L 81 (0, xi_load 1 0 82, 0, 0)) (x_L 82 (0, xi_push (0, 4, 4) 83, 0, 0))))) (x_T 90 (x_T 86 (x_T 83 (x_L 83 (0, xi_if2 3 105 86, 0, 0)) (x_L 86 (0, xi_load 0 2 87, 0, 0))) (x_T 87 (x_L 87 (0, xi_getf 3 0 90, 0, 0)) (x_L 90 (0, xi_load 1 0 91, 0, 0)))) (x_T 94 (x_T 91 (x_L 91 (0, xi_new (x_nc 0 ks_X0) (xm_c mq_12) (xm_s mq_12) 94, 0, 0)) (x_L 94 (0, xi_stk xf_dup 95, 0, 0))) (x_T 95 (x_L 95 (2, x_nof, 1, 1)) (x_T 98 (x_L 98 (0, xi_aast 99, 0, 0)) (x_L 99 (0, xi_inc 1 1 102, 0, 0))))))) (x_T 114 (x_T 107 (x_T 105 (x_T 102 (x_L 102 (0, xi_goto 81, 0, 0)) (x_L 105 (0, xi_push (0, 0, 0) 106, 0, 0))) (x_T 106 (x_L 106 (0, xi_stor 1 0 107, 0, 0)) (x_L 107 (0, xi_load 1 0 108, 0, 0)))) (x_T 110 (x_T 108 (x_L 108 (0, xi_push (0, 16, 16) 110, 0, 0)) (x_L 110 (0, xi_if2 3 133 113, 0, 0))) (x_T 113 (x_L 113 (0, xi_load 0 2 114, 0, 0)) (x_L 114 (0, xi_getf 3 4 117, 0, 0))))) (x_T 122 (x_T 118 (x_T 117 (x_L 117 (0, xi_load 1 0 118, 0, 0)) (x_L 118 (0, xi_new (x_nc 10 ks_X10) (xm_c mq_12) (xm_s mq_12) 121, 0, 0))) (x_T 121 (x_L 121 (0, xi_stk xf_dup 122, 0, 0)) (x_L 122 (0, xi_load 1 0 123, 0, 0)))) (x_T 126 (x_T 123 (x_L 123 (2, x_nof, 26, 2)) (x_L 126 (0, xi_aast 127, 0, 0))) (x_T 127 (x_L 127 (0, xi_inc 1 1 130, 0, 0)) (x_T 130 (x_L 130 (0, xi_goto 107, 0, 0)) (x_L 133 (1, x_nof, 0, 0))))))))
set_option maxRecDepth 20000 in
set_option maxHeartbeats 4000000 in
theorem tb_12_33_ok (K : xKx) (hK : x_KP K) : ∀ pc, x_EOq cls K xJ mq_12 pc (tb_12_33 pc) :=
  (x_Tok2
  (x_Tok2
  (x_Tok2
  (x_Tok2
  (x_Tok2
  (x_Lok (x_st (I := xJ) (xr_aload_n (i := 0) (x_dk dl_12_0_ok 33 rfl))))
  (x_Lok (x_st (I := xJ) (xr_bipush (n := 6) (z := 6) (v := 6) (x_dk dl_12_0_ok 34 rfl) (by decide) (by decide)))))
  (x_Tok2
  (x_Lok (x_st (I := xJ) (xr_newa (kd := 1) (b := false) (ty := .int) rfl rfl (in_t1 (List.mem_of_getElem? (i := 64) rfl) rfl) (x_dk dl_12_0_ok 35 rfl))))
  (x_Lok (x_st (I := xJ) (xr_putF (ci := 3) (k := 7) (ix := 51) (N := 12) (fk := 2) (C := RX3) (T := TX3) (ty0 := tyX3) (ty := .array .int) rfl in_X3 tyX3_ok nmX3 (by decide) (in_t3 (List.mem_of_getElem? (i := 101) rfl) rfl) rfl rfl rfl rfl x_fit_arr (x_dk dl_12_0_ok 36 rfl))))))
  (x_Tok2
  (x_Tok2
  (x_Lok (x_st (I := xJ) (xr_iconst (n := 0) (z := 0) (v := 0) (x_dk dl_12_0_ok 37 rfl) (by decide) (by decide))))
  (x_Lok (x_st (I := xJ) (xr_istore_n (i := 1) (x_dk dl_12_0_ok 38 rfl) (by decide +kernel)))))
  (x_Tok2
  (x_Lok (x_st (I := xJ) (xr_iload_n (i := 1) (x_dk dl_12_0_ok 39 rfl))))
  (x_Lok (x_st (I := xJ) (xr_iconst (n := 4) (z := 4) (v := 4) (x_dk dl_12_0_ok 40 rfl) (by decide) (by decide)))))))
  (x_Tok2
  (x_Tok2
  (x_Tok2
  (x_Lok (x_st (I := xJ) (xr_icmpge (off := 22) (tg := 105) (x_dk dl_12_0_ok 41 rfl) (by decide))))
  (x_Lok (x_st (I := xJ) (xr_aload_n (i := 0) (x_dk dl_12_0_ok 42 rfl)))))
  (x_Tok2
  (x_Lok (x_st (I := xJ) (xr_getf (ci := 3) (k := 0) (ix := 11) (N := 12) (C := RX3) (T := TX3) rfl in_X3 (by decide) (in_t3 (List.mem_of_getElem? (i := 88) rfl) rfl) (x_dk dl_12_0_ok 43 rfl))))
  (x_Lok (x_st (I := xJ) (xr_iload_n (i := 1) (x_dk dl_12_0_ok 44 rfl))))))
  (x_Tok2
  (x_Tok2
  (x_Lok (x_st (I := xJ) (xr_new (ci := 0) (ix := 9) (N := 20) (C := RX0) (T := TX0) (ty0 := tyX0) (ks := ks_X0) rfl in_X0 tyX0_ok (in_t1 (List.mem_of_getElem? (i := 128) rfl) rfl) (in_t2 (List.mem_of_getElem? (i := 74) rfl) rfl) (in_t1 (List.mem_of_getElem? (i := 8) rfl) rfl) rfl df_X0 (x_dk dl_12_0_ok 45 rfl))))
  (x_Lok (x_st (I := xJ) (xr_dup (x_dk dl_12_0_ok 46 rfl)))))
  (x_Tok2
  (x_Lok (x_ca (I := xJ) (q' := mq_1) rfl (xr_callI (q' := mq_1) (ix := 54) (n := 0) (in_t2 (List.mem_of_getElem? (i := 77) rfl) rfl) good_w (in_t1 (List.mem_of_getElem? (i := 8) rfl) rfl) (in_t2 (List.mem_of_getElem? (i := 75) rfl) rfl) (in_t2 (List.mem_of_getElem? (i := 76) rfl) rfl) rfl rfl (by decide +kernel) (by decide +kernel) (by decide +kernel) (x_dk dl_12_0_ok 47 rfl))))
  (x_Tok2
  (x_Lok (x_st (I := xJ) (xr_aastore (x_dk dl_12_0_ok 48 rfl))))
  (x_Lok (x_st (I := xJ) (xr_iinc (i := 1) (n := 1) (x_dk dl_12_0_ok 49 rfl) (by decide +kernel) (by decide)))))))))
  (x_Tok2
  (x_Tok2
  (x_Tok2
  (x_Tok2
  (x_Lok (x_st (I := xJ) (xr_goto (off := (-21)) (tg := 81) (x_dk dl_12_0_ok 50 rfl) (by decide))))
  (x_Lok (x_st (I := xJ) (xr_iconst (n := 0) (z := 0) (v := 0) (x_dk dl_12_0_ok 51 rfl) (by decide) (by decide)))))
  (x_Tok2
  (x_Lok (x_st (I := xJ) (xr_istore_n (i := 1) (x_dk dl_12_0_ok 52 rfl) (by decide +kernel))))
  (x_Lok (x_st (I := xJ) (xr_iload_n (i := 1) (x_dk dl_12_0_ok 53 rfl))))))
  (x_Tok2
  (x_Tok2
  (x_Lok (x_st (I := xJ) (xr_bipush (n := 16) (z := 16) (v := 16) (x_dk dl_12_0_ok 54 rfl) (by decide) (by decide))))
  (x_Lok (x_st (I := xJ) (xr_icmpge (off := 23) (tg := 133) (x_dk dl_12_0_ok 55 rfl) (by decide)))))
  (x_Tok2
  (x_Lok (x_st (I := xJ) (xr_aload_n (i := 0) (x_dk dl_12_0_ok 56 rfl))))
  (x_Lok (x_st (I := xJ) (xr_getf (ci := 3) (k := 4) (ix := 40) (N := 12) (C := RX3) (T := TX3) rfl in_X3 (by decide) (in_t3 (List.mem_of_getElem? (i := 96) rfl) rfl) (x_dk dl_12_0_ok 57 rfl)))))))
  (x_Tok2
  (x_Tok2
  (x_Tok2
  (x_Lok (x_st (I := xJ) (xr_iload_n (i := 1) (x_dk dl_12_0_ok 58 rfl))))
  (x_Lok (x_st (I := xJ) (xr_new (ci := 10) (ix := 38) (N := 21) (C := RX10) (T := TX10) (ty0 := tyX10) (ks := ks_X10) rfl in_X10 tyX10_ok (in_t2 (List.mem_of_getElem? (i := 72) rfl) rfl) (in_t3 (List.mem_of_getElem? (i := 4) rfl) rfl) (in_t1 (List.mem_of_getElem? (i := 10) rfl) rfl) rfl df_X10 (x_dk dl_12_0_ok 59 rfl)))))
  (x_Tok2
  (x_Lok (x_st (I := xJ) (xr_dup (x_dk dl_12_0_ok 60 rfl))))
  (x_Lok (x_st (I := xJ) (xr_iload_n (i := 1) (x_dk dl_12_0_ok 61 rfl))))))
  (x_Tok2
  (x_Tok2
  (x_Lok (x_ca (I := xJ) (q' := mq_26) rfl (xr_callI (q' := mq_26) (ix := 55) (n := 1) (in_t3 (List.mem_of_getElem? (i := 7) rfl) rfl) good_w (in_t1 (List.mem_of_getElem? (i := 10) rfl) rfl) (in_t3 (List.mem_of_getElem? (i := 5) rfl) rfl) (in_t3 (List.mem_of_getElem? (i := 6) rfl) rfl) rfl rfl (by decide +kernel) (by decide +kernel) (by decide +kernel) (x_dk dl_12_0_ok 62 rfl))))
  (x_Lok (x_st (I := xJ) (xr_aastore (x_dk dl_12_0_ok 63 rfl)))))
  (x_Tok2
  (x_Lok (x_st (I := xJ) (xr_iinc (i := 1) (n := 1) (x_dk dl_12_0_ok 64 rfl) (by decide +kernel) (by decide))))
  (x_Tok2
  (x_Lok (x_st (I := xJ) (xr_goto (off := (-23)) (tg := 107) (x_dk dl_12_0_ok 65 rfl) (by decide))))
  (x_Lok (x_rt (I := xJ) (k := 0) ⟨(x_dk dl_12_0_ok 66 rfl), rfl⟩))))))))
def tb_12 : Nat → xE := (x_T 68 tb_12_0 tb_12_33)
theorem tb_12_ok (K : xKx) (hK : x_KP K) : ∀ pc, x_EOq cls K xJ mq_12 pc (tb_12 pc) := (x_Tok2 (tb_12_0_ok K hK) (tb_12_33_ok K hK))
end
end
-- part 49nb
section
noncomputable section
def dl_13_0 : List (Nat × Instr × Nat) := [(0, .iconst 0, 1), (1, .istore_n 1, 1), (2, .iload_n 1, 1), (3, .bipush 16, 2), (5, .if_icmp .ge 18, 3), (8, .aload_n 0, 1), (9, .getfield 40, 3), (12, .iload_n 1, 1), (13, .aaload, 1), (14, .invokevirtual 58, 3), (17, .iinc 1 1, 3), (20, .goto (-18), 3), (23, .aload_n 0, 1), (24, .getfield 44, 3), (27, .iconst (-1), 1), (28, .invokestatic 61, 3), (31, .aload_n 0, 1), (32, .iconst 0, 1), (33, .putfield 67, 3), (36, .return_, 1)]
set_option maxRecDepth 20000 in
theorem dl_13_0_ok : dl_13_0.all (fun q => decide (decode prog_5_method_2_code q.1 = .ok (q.2.1, q.2.2))) = true := xa_g_ok (by decide +kernel)
def tb_13_0 : Nat → xE := (x_T 14 (x_T 5 (x_T 1 (x_T 0 (x_L 0 (0, xi_push (0, 0, 0) 1, 0, 0)) (x_L 1 (0, xi_stor 1 0 2, 0, 0))) (x_T 2 (x_L 2 (0, xi_load 1 0 3, 0, 0)) (x_T 3 (x_L 3 (0, xi_push (0, 16, 16) 5, 0, 0)) (x_L 5 (0, xi_if2 3 23 8, 0, 0))))) (x_T 9 (x_T 8 (x_L 8 (0, xi_load 0 2 9, 0, 0)) (x_L 9 (0, xi_getf 3 4 12, 0, 0))) (x_T 12 (x_L 12 (0, xi_load 1 0 13, 0, 0)) (x_T 13 (x_L 13 (0, xi_aald 14, 0, 0)) (x_L 14 (2, x_nof, 27, 1)))))) (x_T 27 (x_T 20 (x_T 17 (x_L 17 (0, xi_inc 1 1 20, 0, 0)) (x_L 20 (0, xi_goto 2, 0, 0))) (x_T 23 (x_L 23 (0, xi_load 0 2 24, 0, 0)) (x_T 24 (x_L 24 (0, xi_getf 3 5 27, 0, 0)) (x_L 27 (0, xi_push (0, (-1), (-1)) 28, 0, 0))))) (x_T 31 (x_T 28 (x_L 28 (2, x_nof, 40, 2)) (x_L 31 (0, xi_load 0 2 32, 0, 0))) (x_T 32 (x_L 32 (0, xi_push (0, 0, 0) 33, 0, 0)) (x_T 33 (x_L 33 (0, xi_putf 3 9 0 36, 0, 0)) (x_L 36 (1, x_nof, 0, 0)))))))
set_option maxRecDepth 20000 in
set_option maxHeartbeats 4000000 in
theorem tb_13_0_ok (K : xKx) (hK : x_KP K) : ∀ pc, x_EOq cls K xJ mq_13 pc (tb_13_0 pc) :=
  (x_Tok2
  (x_Tok2
  (x_Tok2
  (x_Tok2
  (x_Lok (x_st (I := xJ) (xr_iconst (n := 0) (z := 0) (v := 0) (x_dk dl_13_0_ok 0 rfl) (by decide) (by decide))))
  (x_Lok (x_st (I := xJ) (xr_istore_n (i := 1) (x_dk dl_13_0_ok 1 rfl) (by decide +kernel)))))
  (x_Tok2
  (x_Lok (x_st (I := xJ) (xr_iload_n (i := 1) (x_dk dl_13_0_ok 2 rfl))))
  (x_Tok2
  (x_Lok (x_st (I := xJ) (xr_bipush (n := 16) (z := 16) (v := 16) (x_dk dl_13_0_ok 3 rfl) (by decide) (by decide))))
  (x_Lok (x_st (I := xJ) (xr_icmpge (off := 18) (tg := 23) (x_dk dl_13_0_ok 4 rfl) (by decide)))))))
  (x_Tok2
  (x_Tok2
  (x_Lok (x_st (I := xJ) (xr_aload_n (i := 0) (x_dk dl_13_0_ok 5 rfl))))
  (x_Lok (x_st (I := xJ) (xr_getf (ci := 3) (k := 4) (ix := 40) (N := 12) (C := RX3) (T := TX3) rfl in_X3 (by decide) (in_t3 (List.mem_of_getElem? (i := 96) rfl) rfl) (x_dk dl_13_0_ok 6 rfl)))))
  (x_Tok2
  (x_Lok (x_st (I := xJ) (xr_iload_n (i := 1) (x_dk dl_13_0_ok 7 rfl))))
  (x_Tok2
  (x_Lok (x_st (I := xJ) (xr_aaload (x_dk dl_13_0_ok 8 rfl))))
  (x_Lok (x_ca (I := xJ) (q' := mq_27) rfl (xr_callV (q' := mq_27) (ix := 58) (n := 0) (in_t4 (List.mem_of_getElem? (i := 98) rfl) rfl) good_w (in_t1 (List.mem_of_getElem? (i := 10) rfl) rfl) (in_t4 (List.mem_of_getElem? (i := 95) rfl) rfl) (in_t4 (List.mem_of_getElem? (i := 96) rfl) rfl) (in_t4 (List.mem_of_getElem? (i := 97) rfl) rfl) (by decide +kernel) (by decide +kernel) (by decide +kernel) (x_dk dl_13_0_ok 9 rfl))))))))
  (x_Tok2
  (x_Tok2
  (x_Tok2
  (x_Lok (x_st (I := xJ) (xr_iinc (i := 1) (n := 1) (x_dk dl_13_0_ok 10 rfl) (by decide +kernel) (by decide))))
  (x_Lok (x_st (I := xJ) (xr_goto (off := (-18)) (tg := 2) (x_dk dl_13_0_ok 11 rfl) (by decide)))))
  (x_Tok2
  (x_Lok (x_st (I := xJ) (xr_aload_n (i := 0) (x_dk dl_13_0_ok 12 rfl))))
  (x_Tok2
  (x_Lok (x_st (I := xJ) (xr_getf (ci := 3) (k := 5) (ix := 44) (N := 12) (C := RX3) (T := TX3) rfl in_X3 (by decide) (in_t3 (List.mem_of_getElem? (i := 98) rfl) rfl) (x_dk dl_13_0_ok 13 rfl))))
  (x_Lok (x_st (I := xJ) (xr_iconst (n := (-1)) (z := (-1)) (v := (-1)) (x_dk dl_13_0_ok 14 rfl) (by decide) (by decide)))))))
  (x_Tok2
  (x_Tok2
  (x_Lok (x_ca (I := xJ) (q' := mq_40) rfl (xr_callS (q' := mq_40) (ix := 61) (n := 2) (in_t4 (List.mem_of_getElem? (i := 9) rfl) rfl) good_w (in_t1 (List.mem_of_getElem? (i := 13) rfl) rfl) (in_t4 (List.mem_of_getElem? (i := 107) rfl) rfl) (in_t4 (List.mem_of_getElem? (i := 8) rfl) rfl) (by decide +kernel) (by decide +kernel) (x_dk dl_13_0_ok 15 rfl))))
  (x_Lok (x_st (I := xJ) (xr_aload_n (i := 0) (x_dk dl_13_0_ok 16 rfl)))))
  (x_Tok2
  (x_Lok (x_st (I := xJ) (xr_iconst (n := 0) (z := 0) (v := 0) (x_dk dl_13_0_ok 17 rfl) (by decide) (by decide))))
  (x_Tok2
  (x_Lok (x_st (I := xJ) (xr_putf (ci := 3) (k := 9) (ix := 67) (N := 12) (fk := 0) (C := RX3) (T := TX3) (ty0 := tyX3) (ty := .int) rfl in_X3 tyX3_ok nmX3 (by decide) (in_t3 (List.mem_of_getElem? (i := 103) rfl) rfl) rfl rfl x_fit_int (x_dk dl_13_0_ok 18 rfl))))
  (x_Lok (x_rt (I := xJ) (k := 0) ⟨(x_dk dl_13_0_ok 19 rfl), rfl⟩)))))))
def tb_13 : Nat → xE := tb_13_0
theorem tb_13_ok (K : xKx) (hK : x_KP K) : ∀ pc, x_EOq cls K xJ mq_13 pc (tb_13 pc) := tb_13_0_ok K hK
def dl_14_0 : List (Nat × Instr × Nat) := [(0, .aload_n 0, 1), (1, .invokespecial 3, 3), (4, .aload_n 0, 1), (5, .iconst 4, 1), (6, .newarray .int, 2), (8, .putfield 9, 3), (11, .aload_n 0, 1), (12, .iconst 4, 1), (13, .newarray .int, 2), (15, .putfield 15, 3), (18, .aload_n 0, 1), (19, .iconst 4, 1), (20, .newarray .int, 2), (22, .putfield 18, 3), (25, .aload_n 0, 1), (26, .iconst 4, 1), (27, .newarray .int, 2), (29, .putfield 21, 3), (32, .aload_n 0, 1), (33, .iconst 4, 1), (34, .newarray .int, 2), (36, .putfield 24, 3), (39, .aload_n 0, 1), (40, .iconst 4, 1), (41, .newarray .int, 2), (43, .putfield 27, 3), (46, .aload_n 0, 1), (47, .iconst 4, 1), (48, .newarray .int, 2), (50, .putfield 30, 3), (53, .aload_n 0, 1), (54, .iconst 4, 1), (55, .newarray .int, 2), (57, .putfield 33, 3), (60, .aload_n 0, 1), (61, .iconst 4, 1), (62, .newarray .int, 2), (64, .putfield 36, 3), (67, .aload_n 0, 1), (68, .iconst 4, 1), (69, .newarray .int, 2), (71, .putfield 39, 3), (74, .aload_n 0, 1), (75, .iconst 4, 1), (76, .bipush 32, 2), (78, .multianewarray 42 2, 4), (82, .putfield 44, 3), (85, .aload_n 0, 1), (86, .iconst 4, 1), (87, .newarray .int, 2), (89, .putfield 47, 3), (92, .aload_n 0, 1), (93, .bipush 32, 2), (95, .newarray .int, 2), (97, .putfield 50, 3), (100, .aload_n 0, 1), (101, .bipush 32, 2), (103, .newarray .int, 2), (105, .putfield 53, 3), (108, .aload_n 0, 1), (109, .bipush 32, 2), (111, .newarray .int, 2), (113, .putfield 56, 3), (116, .aload_n 0, 1), (117, .bipush 32, 2), (119, .newarray .int, 2), (121, .putfield 59, 3), (124, .aload_n 0, 1), (125, .bipush 32, 2), (127, .newarray .int, 2), (129, .putfield 62, 3), (132, .aload_n 0, 1), (133, .bipush 32, 2), (135, .iconst 4, 1), (136, .multianewarray 42 2, 4), (140, .putfield 65, 3), (143, .return_, 1)]
set_option maxRecDepth 20000 in
theorem dl_14_0_ok : dl_14_0.all (fun q => decide (decode prog_6_method_1_code q.1 = .ok (q.2.1, q.2.2))) = true := xa_g_ok (by decide +kernel)
def tb_14_0 : Nat → xE := (x_T 32 (x_T 13 (x_T 5 (x_T 1 (x_T 0 (x_L 0 (0, xi_load 0 2 1, 0, 0)) (x_L 1 (0, xi_oi 4, 0, 0))) (x_T 4 (x_L 4 (0, xi_load 0 2 5, 0, 0)) (x_L 5 (0, xi_push (0, 4, 4) 6, 0, 0)))) (x_T 8 (x_T 6 (x_L 6 (0, xi_newa 1 0 (0, 0, 0) (xm_c mq_14) (xm_s mq_14) 8, 0, 0)) (x_L 8 (0, xi_putf 4 2 2 11, 0, 0))) (x_T 11 (x_L 11 (0, xi_load 0 2 12, 0, 0)) (x_T 12 (x_L 12 (0, xi_push (0, 4, 4) 13, 0, 0)) (x_L 13 (0, xi_newa 1 0 (0, 0, 0) (xm_c mq_14) (xm_s mq_14) 15, 0, 0)))))) (x_T 22 (x_T 18 (x_T 15 (x_L 15 (0, xi_putf 4 3 2 18, 0, 0)) (x_L 18 (0, xi_load 0 2 19, 0, 0))) (x_T 19 (x_L 19 (0, xi_push (0, 4, 4) 20, 0, 0)) (x_T 20 (x_L 20 (0, xi_newa 1 0 (0, 0, 0) (xm_c mq_14) (xm_s mq_14) 22, 0, 0)) (x_L 22 (0, xi_putf 4 4 2 25, 0, 0))))) (x_T 26 (x_T 25 (x_L 25 (0, xi_load 0 2 26, 0, 0)) (x_L 26 (0, xi_push (0, 4, 4) 27, 0, 0))) (x_T 27 (x_L 27 (0, xi_newa 1 0 (0, 0, 0) (xm_c mq_14) (xm_s mq_14) 29, 0, 0)) (x_T 29 (x_L 29 (0, xi_putf 4 5 2 32, 0, 0)) (x_L 32 (0, xi_load 0 2 33, 0, 0))))))) (x_T 47 (x_T 39 (x_T 34 (x_T 33 (x_L 33 (0, xi_push (0, 4, 4) 34, 0, 0)) (x_L 34 (0, xi_newa 1 0 (0, 0, 0) (xm_c mq_14) (xm_s mq_14) 36, 0, 0))) (x_T 36 (x_L 36 (0, xi_putf 4 6 2 39, 0, 0)) (x_L 39 (0, xi_load 0 2 40, 0, 0)))) (x_T 41 (x_T 40 (x_L 40 (0, xi_push (0, 4, 4) 41, 0, 0)) (x_L 41 (0, xi_newa 1 0 (0, 0, 0) (xm_c mq_14) (xm_s mq_14) 43, 0, 0))) (x_T 43 (x_L 43 (0, xi_putf 4 7 2 46, 0, 0)) (x_T 46 (x_L 46 (0, xi_load 0 2 47, 0, 0)) (x_L 47 (0, xi_push (0, 4, 4) 48, 0, 0)))))) (x_T 55 (x_T 50 (x_T 48 (x_L 48 (0, xi_newa 1 0 (0, 0, 0) (xm_c mq_14) (xm_s mq_14) 50, 0, 0)) (x_L 50 (0, xi_putf 4 8 2 53, 0, 0))) (x_T 53 (x_L 53 (0, xi_load 0 2 54, 0, 0)) (x_T 54 (x_L 54 (0, xi_push (0, 4, 4) 55, 0, 0)) (x_L 55 (0, xi_newa 1 0 (0, 0, 0) (xm_c mq_14) (xm_s mq_14) 57, 0, 0))))) (x_T 60 (x_T 57 (x_L 57 (0, xi_putf 4 9 2 60, 0, 0)) (x_L 60 (0, xi_load 0 2 61, 0, 0))) (x_T 61 (x_L 61 (0, xi_push (0, 4, 4) 62, 0, 0)) (x_T 62 (x_L 62 (0, xi_newa 1 0 (0, 0, 0) (xm_c mq_14) (xm_s mq_14) 64, 0, 0)) (x_L 64 (0, xi_putf 4 10 2 67, 0, 0))))))))
set_option maxRecDepth 20000 in
set_option maxHeartbeats 4000000 in
theorem tb_14_0_ok (K : xKx) (hK : x_KP K) : ∀ pc, x_EOq cls K xJ mq_14 pc (tb_14_0 pc) :=
  (x_Tok2
  (x_Tok2
  (x_Tok2
  (x_Tok2
  (x_Tok2
  (x_Lok (x_st (I := xJ) (xr_aload_n (i := 0) (x_dk dl_14_0_ok 0 rfl))))
  (x_Lok (x_st (I := xJ) (xr_oi (ix := 3) (in_t1 (List.mem_of_getElem? (i := 172) rfl) rfl) (in_t1 (List.mem_of_getElem? (i := 27) rfl) rfl) (in_t1 (List.mem_of_getElem? (i := 28) rfl) rfl) (x_dk dl_14_0_ok 1 rfl)))))
  (x_Tok2
  (x_Lok (x_st (I := xJ) (xr_aload_n (i := 0) (x_dk dl_14_0_ok 2 rfl))))
  (x_Lok (x_st (I := xJ) (xr_iconst (n := 4) (z := 4) (v := 4) (x_dk dl_14_0_ok 3 rfl) (by decide) (by decide))))))
  (x_Tok2
  (x_Tok2
  (x_Lok (x_st (I := xJ) (xr_newa (kd := 1) (b := false) (ty := .int) rfl rfl (in_t1 (List.mem_of_getElem? (i := 64) rfl) rfl) (x_dk dl_14_0_ok 4 rfl))))
  (x_Lok (x_st (I := xJ) (xr_putF (ci := 4) (k := 2) (ix := 9) (N := 20) (fk := 2) (C := RX4) (T := TX4) (ty0 := tyX4) (ty := .array .int) rfl in_X4 tyX4_ok nmX4 (by decide) (in_t1 (List.mem_of_getElem? (i := 179) rfl) rfl) rfl rfl rfl rfl x_fit_arr (x_dk dl_14_0_ok 5 rfl)))))
  (x_Tok2
  (x_Lok (x_st (I := xJ) (xr_aload_n (i := 0) (x_dk dl_14_0_ok 6 rfl))))
  (x_Tok2
  (x_Lok (x_st (I := xJ) (xr_iconst (n := 4) (z := 4) (v := 4) (x_dk dl_14_0_ok 7 rfl) (by decide) (by decide))))
  (x_Lok (x_st (I := xJ) (xr_newa (kd := 1) (b := false) (ty := .int) rfl rfl (in_t1 (List.mem_of_getElem? (i := 64) rfl) rfl) (x_dk dl_14_0_ok 8 rfl))))))))
  (x_Tok2
  (x_Tok2
  (x_Tok2
  (x_Lok (x_st (I := xJ) (xr_putF (ci := 4) (k := 3) (ix := 15) (N := 20) (fk := 2) (C := RX4) (T := TX4) (ty0 := tyX4) (ty := .array .int) rfl in_X4 tyX4_ok nmX4 (by decide) (in_t1 (List.mem_of_getElem? (i := 181) rfl) rfl) rfl rfl rfl rfl x_fit_arr (x_dk dl_14_0_ok 9 rfl))))
  (x_Lok (x_st (I := xJ) (xr_aload_n (i := 0) (x_dk dl_14_0_ok 10 rfl)))))
  (x_Tok2
  (x_Lok (x_st (I := xJ) (xr_iconst (n := 4) (z := 4) (v := 4) (x_dk dl_14_0_ok 11 rfl) (by decide) (by decide))))
  (x_Tok2
  (x_Lok (x_st (I := xJ) (xr_newa (kd := 1) (b := false) (ty := .int) rfl rfl (in_t1 (List.mem_of_getElem? (i := 64) rfl) rfl) (x_dk dl_14_0_ok 12 rfl))))
  (x_Lok (x_st (I := xJ) (xr_putF (ci := 4) (k := 4) (ix := 18) (N := 20) (fk := 2) (C := RX4) (T := TX4) (ty0 := tyX4) (ty := .array .int) rfl in_X4 tyX4_ok nmX4 (by decide) (in_t1 (List.mem_of_getElem? (i := 183) rfl) rfl) rfl rfl rfl rfl x_fit_arr (x_dk dl_14_0_ok 13 rfl)))))))
  (x_Tok2
  (x_Tok2
  (x_Lok (x_st (I := xJ) (xr_aload_n (i := 0) (x_dk dl_14_0_ok 14 rfl))))
  (x_Lok (x_st (I := xJ) (xr_iconst (n := 4) (z := 4) (v := 4) (x_dk dl_14_0_ok 15 rfl) (by decide) (by decide)))))
  (x_Tok2
  (x_Lok (x_st (I := xJ) (xr_newa (kd := 1) (b := false) (ty := .int) rfl rfl (in_t1 (List.mem_of_getElem? (i := 64) rfl) rfl) (x_dk dl_14_0_ok 16 rfl))))
  (x_Tok2
  (x_Lok (x_st (I := xJ) (xr_putF (ci := 4) (k := 5) (ix := 21) (N := 20) (fk := 2) (C := RX4) (T := TX4) (ty0 := tyX4) (ty := .array .int) rfl in_X4 tyX4_ok nmX4 (by decide) (in_t1 (List.mem_of_getElem? (i := 185) rfl) rfl) rfl rfl rfl rfl x_fit_arr (x_dk dl_14_0_ok 17 rfl))))
  (x_Lok (x_st (I := xJ) (xr_aload_n (i := 0) (x_dk dl_14_0_ok 18 rfl)))))))))
  (x_Tok2
  (x_Tok2
  (x_Tok2
  (x_Tok2
  (x_Lok (x_st (I := xJ) (xr_iconst (n := 4) (z := 4) (v := 4) (x_dk dl_14_0_ok 19 rfl) (by decide) (by decide))))
  (x_Lok (x_st (I := xJ) (xr_newa (kd := 1) (b := false) (ty := .int) rfl rfl (in_t1 (List.mem_of_getElem? (i := 64) rfl) rfl) (x_dk dl_14_0_ok 20 rfl)))))
  (x_Tok2
  (x_Lok (x_st (I := xJ) (xr_putF (ci := 4) (k := 6) (ix := 24) (N := 20) (fk := 2) (C := RX4) (T := TX4) (ty0 := tyX4) (ty := .array .int) rfl in_X4 tyX4_ok nmX4 (by decide) (in_t1 (List.mem_of_getElem? (i := 187) rfl) rfl) rfl rfl rfl rfl x_fit_arr (x_dk dl_14_0_ok 21 rfl))))
  (x_Lok (x_st (I := xJ) (xr_aload_n (i := 0) (x_dk dl_14_0_ok 22 rfl))))))
  (x_Tok2
  (x_Tok2
  (x_Lok (x_st (I := xJ) (xr_iconst (n := 4) (z := 4) (v := 4) (x_dk dl_14_0_ok 23 rfl) (by decide) (by decide))))
  (x_Lok (x_st (I := xJ) (xr_newa (kd := 1) (b := false) (ty := .int) rfl rfl (in_t1 (List.mem_of_getElem? (i := 64) rfl) rfl) (x_dk dl_14_0_ok 24 rfl)))))
  (x_Tok2
  (x_Lok (x_st (I := xJ) (xr_putF (ci := 4) (k := 7) (ix := 27) (N := 20) (fk := 2) (C := RX4) (T := TX4) (ty0 := tyX4) (ty := .array .int) rfl in_X4 tyX4_ok nmX4 (by decide) (in_t1 (List.mem_of_getElem? (i := 189) rfl) rfl) rfl rfl rfl rfl x_fit_arr (x_dk dl_14_0_ok 25 rfl))))
  (x_Tok2
  (x_Lok (x_st (I := xJ) (xr_aload_n (i := 0) (x_dk dl_14_0_ok 26 rfl))))
  (x_Lok (x_st (I := xJ) (xr_iconst (n := 4) (z := 4) (v := 4) (x_dk dl_14_0_ok 27 rfl) (by decide) (by decide))))))))
  (x_Tok2
  (x_Tok2
  (x_Tok2
  (x_Lok (x_st (I := xJ) (xr_newa (kd := 1) (b := false) (ty := .int) rfl rfl (in_t1 (List.mem_of_getElem? (i := 64) rfl) rfl) (x_dk dl_14_0_ok 28 rfl))))
  (x_Lok (x_st (I := xJ) (xr_putF (ci := 4) (k := 8) (ix := 30) (N := 20) (fk := 2) (C := RX4) (T := TX4) (ty0 := tyX4) (ty := .array .int) rfl in_X4 tyX4_ok nmX4 (by decide) (in_t1 (List.mem_of_getElem? (i := 190) rfl) rfl) rfl rfl rfl rfl x_fit_arr (x_dk dl_14_0_ok 29 rfl)))))
  (x_Tok2
  (x_Lok (x_st (I := xJ) (xr_aload_n (i := 0) (x_dk dl_14_0_ok 30 rfl))))
  (x_Tok2
  (x_Lok (x_st (I := xJ) (xr_iconst (n := 4) (z := 4) (v := 4) (x_dk dl_14_0_ok 31 rfl) (by decide) (by decide))))
  (x_Lok (x_st (I := xJ) (xr_newa (kd := 1) (b := false) (ty := .int) rfl rfl (in_t1 (List.mem_of_getElem? (i := 64) rfl) rfl) (x_dk dl_14_0_ok 32 rfl)))))))
  (x_Tok2
  (x_Tok2
  (x_Lok (x_st (I := xJ) (xr_putF (ci := 4) (k := 9) (ix := 33) (N := 20) (fk := 2) (C := RX4) (T := TX4) (ty0 := tyX4) (ty := .array .int) rfl in_X4 tyX4_ok nmX4 (by decide) (in_t1 (List.mem_of_getElem? (i := 191) rfl) rfl) rfl rfl rfl rfl x_fit_arr (x_dk dl_14_0_ok 33 rfl))))
  (x_Lok (x_st (I := xJ) (xr_aload_n (i := 0) (x_dk dl_14_0_ok 34 rfl)))))
  (x_Tok2
  (x_Lok (x_st (I := xJ) (xr_iconst (n := 4) (z := 4) (v := 4) (x_dk dl_14_0_ok 35 rfl) (by decide) (by decide))))
  (x_Tok2
  (x_Lok (x_st (I := xJ) (xr_newa (kd := 1) (b := false) (ty := .int) rfl rfl (in_t1 (List.mem_of_getElem? (i := 64) rfl) rfl) (x_dk dl_14_0_ok 36 rfl))))
  (x_Lok (x_st (I := xJ) (xr_putF (ci := 4) (k := 10) (ix := 36) (N := 20) (fk := 2) (C := RX4) (T := TX4) (ty0 := tyX4) (ty := .array .int) rfl in_X4 tyX4_ok nmX4 (by decide) (in_t1 (List.mem_of_getElem? (i := 192) rfl) rfl) rfl rfl rfl rfl x_fit_arr (x_dk dl_14_0_ok 37 rfl))))))))))
def tb_14_38 : Nat → xE := (x_T 101 (x_T 82 (x_T 71 (x_T 68 (x_T 67 (x_L 67 (0, xi_load 0 2 68, 0, 0)) (x_L 68 (0, xi_push (0, 4, 4) 69, 0, 0))) (x_T 69 (x_L 69 (0, xi_newa 1 0 (0, 0, 0) (xm_c mq_14) (xm_s mq_14) 71, 0, 0)) (x_L 71 (0, xi_putf 4 11 2 74, 0, 0)))) (x_T 75 (x_T 74 (x_L 74 (0, xi_load 0 2 75, 0, 0)) (x_L 75 (0, xi_push (0, 4, 4) 76, 0, 0))) (x_T 76 (x_L 76 (0, xi_push (0, 32, 32) 78, 0, 0)) (x_T 78 (x_L 78 (0, xi_mna (xm_c mq_14) (xm_s mq_14) 82, 0, 0)) (x_L 82 (0, xi_putf 4 12 2 85, 0, 0)))))) (x_T 92 (x_T 86 (x_T 85 (x_L 85 (0, xi_load 0 2 86, 0, 0)) (x_L 86 (0, xi_push (0, 4, 4) 87, 0, 0))) (x_T 87 (x_L 87 (0, xi_newa 1 0 (0, 0, 0) (xm_c mq_14) (xm_s mq_14) 89, 0, 0)) (x_T 89 (x_L 89 (0, xi_putf 4 13 2 92, 0, 0)) (x_L 92 (0, xi_load 0 2 93, 0, 0))))) (x_T 95 (x_T 93 (x_L 93 (0, xi_push (0, 32, 32) 95, 0, 0)) (x_L 95 (0, xi_newa 1 0 (0, 0, 0) (xm_c mq_14) (xm_s mq_14) 97, 0, 0))) (x_T 97 (x_L 97 (0, xi_putf 4 14 2 100, 0, 0)) (x_T 100 (x_L 100 (0, xi_load 0 2 101, 0, 0)) (x_L 101 (0, xi_push (0, 32, 32) 103, 0, 0))))))) (x_T 121 (x_T 111 (x_T 105 (x_T 103 (x_L 103 (0, xi_newa 1 0 (0, 0, 0) (xm_c mq_14) (xm_s mq_14) 105, 0, 0)) (x_L 105 (0, xi_putf 4 15 2 108, 0, 0))) (x_T 108 (x_L 108 (0, xi_load 0 2 109, 0, 0)) (x_T 109 (x_L 109 (0, xi_push (0, 32, 32) 111, 0, 0)) (x_L 111 (0, xi_newa 1 0 (0, 0, 0) (xm_c mq_14) (xm_s mq_14) 113, 0, 0))))) (x_T 116 (x_T 113 (x_L 113 (0, xi_putf 4 16 2 116, 0, 0)) (x_L 116 (0, xi_load 0 2 117, 0, 0))) (x_T 117 (x_L 117 (0, xi_push (0, 32, 32) 119, 0, 0)) (x_T 119 (x_L 119 (0, xi_newa 1 0 (0, 0, 0) (xm_c mq_14) (xm_s mq_14) 121, 0, 0)) (x_L 121 (0, xi_putf 4 17 2 124, 0, 0)))))) (x_T 132 (x_T 125 (x_T 124 (x_L 124 (0, xi_load 0 2 125, 0, 0)) (x_L 125 (0, xi_push (0, 32, 32) 127, 0, 0))) (x_T 127 (x_L 127 (0, xi_newa 1 0 (0, 0, 0) (xm_c mq_14) (xm_s mq_14) 129, 0, 0)) (x_T 129 (x_L 129 (0, xi_putf 4 18 2 132, 0, 0)) (x_L 132 (0, xi_load 0 2 133, 0, 0))))) (x_T 135 (x_T 133 (x_L 133 (0, xi_push (0, 32, 32) 135, 0, 0)) (x_L 135 (0, xi_push (0, 4, 4) 136, 0, 0))) (x_T 136 (x_L 136 (0, xi_mna (xm_c mq_14) (xm_s mq_14) 140, 0, 0)) (x_T 140 (x_L 140 (0, xi_putf 4 19 2 143, 0, 0)) (x_L 143 (1, x_nof, 0, 0))))))))
set_option maxRecDepth 20000 in
set_option maxHeartbeats 4000000 in
theorem tb_14_38_ok (K : xKx) (hK : x_KP K) : ∀ pc, x_EOq cls K xJ mq_14 pc (tb_14_38 pc) :=
  (x_Tok2
  (x_Tok2
  (x_Tok2
  (x_Tok2
  (x_Tok2
  (x_Lok (x_st (I := xJ) (xr_aload_n (i := 0) (x_dk dl_14_0_ok 38 rfl))))
  (x_Lok (x_st (I := xJ) (xr_iconst (n := 4) (z := 4) (v := 4) (x_dk dl_14_0_ok 39 rfl) (by decide) (by decide)))))
  (x_Tok2
  (x_Lok (x_st (I := xJ) (xr_newa (kd := 1) (b := false) (ty := .int) rfl rfl (in_t1 (List.mem_of_getElem? (i := 64) rfl) rfl) (x_dk dl_14_0_ok 40 rfl))))
  (x_Lok (x_st (I := xJ) (xr_putF (ci := 4) (k := 11) (ix := 39) (N := 20) (fk := 2) (C := RX4) (T := TX4) (ty0 := tyX4) (ty := .array .int) rfl in_X4 tyX4_ok nmX4 (by decide) (in_t1 (List.mem_of_getElem? (i := 193) rfl) rfl) rfl rfl rfl rfl x_fit_arr (x_dk dl_14_0_ok 41 rfl))))))
  (x_Tok2
  (x_Tok2
  (x_Lok (x_st (I := xJ) (xr_aload_n (i := 0) (x_dk dl_14_0_ok 42 rfl))))
  (x_Lok (x_st (I := xJ) (xr_iconst (n := 4) (z := 4) (v := 4) (x_dk dl_14_0_ok 43 rfl) (by decide) (by decide)))))
  (x_Tok2
  (x_Lok (x_st (I := xJ) (xr_bipush (n := 32) (z := 32) (v := 32) (x_dk dl_14_0_ok 44 rfl) (by decide) (by decide))))
  (x_Tok2
  (x_Lok (x_st (I := xJ) (xr_mna (ix := 42) (C := "[[I") (by decide +kernel) (in_t1 (List.mem_of_getElem? (i := 173) rfl) rfl) (in_t1 (List.mem_of_getElem? (i := 64) rfl) rfl) (x_dk dl_14_0_ok 45 rfl))))
  (x_Lok (x_st (I := xJ) (xr_putF (ci := 4) (k := 12) (ix := 44) (N := 20) (fk := 2) (C := RX4) (T := TX4) (ty0 := tyX4) (ty := .array (.array .int)) rfl in_X4 tyX4_ok nmX4 (by decide) (in_t1 (List.mem_of_getElem? (i := 194) rfl) rfl) rfl rfl rfl rfl x_fit_arr (x_dk dl_14_0_ok 46 rfl))))))))
  (x_Tok2
  (x_Tok2
  (x_Tok2
  (x_Lok (x_st (I := xJ) (xr_aload_n (i := 0) (x_dk dl_14_0_ok 47 rfl))))
  (x_Lok (x_st (I := xJ) (xr_iconst (n := 4) (z := 4) (v := 4) (x_dk dl_14_0_ok 48 rfl) (by decide) (by decide)))))
  (x_Tok2
  (x_Lok (x_st (I := xJ) (xr_newa (kd := 1) (b := false) (ty := .int) rfl rfl (in_t1 (List.mem_of_getElem? (i := 64) rfl) rfl) (x_dk dl_14_0_ok 49 rfl))))
  (x_Tok2
  (x_Lok (x_st (I := xJ) (xr_putF (ci := 4) (k := 13) (ix := 47) (N := 20) (fk := 2) (C := RX4) (T := TX4) (ty0 := tyX4) (ty := .array .int) rfl in_X4 tyX4_ok nmX4 (by decide) (in_t1 (List.mem_of_getElem? (i := 195) rfl) rfl) rfl rfl rfl rfl x_fit_arr (x_dk dl_14_0_ok 50 rfl))))
  (x_Lok (x_st (I := xJ) (xr_aload_n (i := 0) (x_dk dl_14_0_ok 51 rfl)))))))
  (x_Tok2
  (x_Tok2
  (x_Lok (x_st (I := xJ) (xr_bipush (n := 32) (z := 32) (v := 32) (x_dk dl_14_0_ok 52 rfl) (by decide) (by decide))))
  (x_Lok (x_st (I := xJ) (xr_newa (kd := 1) (b := false) (ty := .int) rfl rfl (in_t1 (List.mem_of_getElem? (i := 64) rfl) rfl) (x_dk dl_14_0_ok 53 rfl)))))
  (x_Tok2
  (x_Lok (x_st (I := xJ) (xr_putF (ci := 4) (k := 14) (ix := 50) (N := 20) (fk := 2) (C := RX4) (T := TX4) (ty0 := tyX4) (ty := .array .int) rfl in_X4 tyX4_ok nmX4 (by decide) (in_t1 (List.mem_of_getElem? (i := 196) rfl) rfl) rfl rfl rfl rfl x_fit_arr (x_dk dl_14_0_ok 54 rfl))))
  (x_Tok2
  (x_Lok (x_st (I := xJ) (xr_aload_n (i := 0) (x_dk dl_14_0_ok 55 rfl))))
  (x_Lok (x_st (I := xJ) (xr_bipush (n := 32) (z := 32) (v := 32) (x_dk dl_14_0_ok 56 rfl) (by decide) (by decide)))))))))
  (x_Tok2
  (x_Tok2
  (x_Tok2
  (x_Tok2
  (x_Lok (x_st (I := xJ) (xr_newa (kd := 1) (b := false) (ty := .int) rfl rfl (in_t1 (List.mem_of_getElem? (i := 64) rfl) rfl) (x_dk dl_14_0_ok 57 rfl))))
  (x_Lok (x_st (I := xJ) (xr_putF (ci := 4) (k := 15) (ix := 53) (N := 20) (fk := 2) (C := RX4) (T := TX4) (ty0 := tyX4) (ty := .array .int) rfl in_X4 tyX4_ok nmX4 (by decide) (in_t1 (List.mem_of_getElem? (i := 198) rfl) rfl) rfl rfl rfl rfl x_fit_arr (x_dk dl_14_0_ok 58 rfl)))))
  (x_Tok2
  (x_Lok (x_st (I := xJ) (xr_aload_n (i := 0) (x_dk dl_14_0_ok 59 rfl))))
  (x_Tok2
  (x_Lok (x_st (I := xJ) (xr_bipush (n := 32) (z := 32) (v := 32) (x_dk dl_14_0_ok 60 rfl) (by decide) (by decide))))
  (x_Lok (x_st (I := xJ) (xr_newa (kd := 1) (b := false) (ty := .int) rfl rfl (in_t1 (List.mem_of_getElem? (i := 64) rfl) rfl) (x_dk dl_14_0_ok 61 rfl)))))))
  (x_Tok2
  (x_Tok2
  (x_Lok (x_st (I := xJ) (xr_putF (ci := 4) (k := 16) (ix := 56) (N := 20) (fk := 2) (C := RX4) (T := TX4) (ty0 := tyX4) (ty := .array .int) rfl in_X4 tyX4_ok nmX4 (by decide) (in_t1 (List.mem_of_getElem? (i := 200) rfl) rfl) rfl rfl rfl rfl x_fit_arr (x_dk dl_14_0_ok 62 rfl))))
  (x_Lok (x_st (I := xJ) (xr_aload_n (i := 0) (x_dk dl_14_0_ok 63 rfl)))))
  (x_Tok2
  (x_Lok (x_st (I := xJ) (xr_bipush (n := 32) (z := 32) (v := 32) (x_dk dl_14_0_ok 64 rfl) (by decide) (by decide))))
  (x_Tok2
  (x_Lok (x_st (I := xJ) (xr_newa (kd := 1) (b := false) (ty := .int) rfl rfl (in_t1 (List.mem_of_getElem? (i := 64) rfl) rfl) (x_dk dl_14_0_ok 65 rfl))))
  (x_Lok (x_st (I := xJ) (xr_putF (ci := 4) (k := 17) (ix := 59) (N := 20) (fk := 2) (C := RX4) (T := TX4) (ty0 := tyX4) (ty := .array .int) rfl in_X4 tyX4_ok nmX4 (by decide) (in_t1 (List.mem_of_getElem? (i := 202) rfl) rfl) rfl rfl rfl rfl x_fit_arr (x_dk dl_14_0_ok 66 rfl))))))))
  (x_Tok2
  (x_Tok2
  (x_Tok2
  (x_Lok (x_st (I := xJ) (xr_aload_n (i := 0) (x_dk dl_14_0_ok 67 rfl))))
  (x_Lok (x_st (I := xJ) (xr_bipush (n := 32) (z := 32) (v := 32) (x_dk dl_14_0_ok 68 rfl) (by decide) (by decide)))))
  (x_Tok2
  (x_Lok (x_st (I := xJ) (xr_newa (kd := 1) (b := false) (ty := .int) rfl rfl (in_t1 (List.mem_of_getElem? (i := 64) rfl) rfl) (x_dk dl_14_0_ok 69 rfl))))
  (x_Tok2
  (x_Lok (x_st (I := xJ) (xr_putF (ci := 4) (k := 18) (ix := 62) (N := 20) (fk := 2) (C := RX4) (T := TX4) (ty0 := tyX4) (ty := .array .int) rfl in_X4 tyX4_ok nmX4 (by decide) (in_t1 (List.mem_of_getElem? (i := 203) rfl) rfl) rfl rfl rfl rfl x_fit_arr (x_dk dl_14_0_ok 70 rfl))))
  (x_Lok (x_st (I := xJ) (xr_aload_n (i := 0) (x_dk dl_14_0_ok 71 rfl)))))))
  (x_Tok2
  (x_Tok2
  (x_Lok (x_st (I := xJ) (xr_bipush (n := 32) (z := 32) (v := 32) (x_dk dl_14_0_ok 72 rfl) (by decide) (by decide))))
  (x_Lok (x_st (I := xJ) (xr_iconst (n := 4) (z := 4) (v := 4) (x_dk dl_14_0_ok 73 rfl) (by decide) (by decide)))))
  (x_Tok2
  (x_Lok (x_st (I := xJ) (xr_mna (ix := 42) (C := "[[I") (by decide +kernel) (in_t1 (List.mem_of_getElem? (i := 173) rfl) rfl) (in_t1 (List.mem_of_getElem? (i := 64) rfl) rfl) (x_dk dl_14_0_ok 74 rfl))))
  (x_Tok2
  (x_Lok (x_st (I := xJ) (xr_putF (ci := 4) (k := 19) (ix := 65) (N := 20) (fk := 2) (C := RX4) (T := TX4) (ty0 := tyX4) (ty := .array (.array .int)) rfl in_X4 tyX4_ok nmX4 (by decide) (in_t1 (List.mem_of_getElem? (i := 204) rfl) rfl) rfl rfl rfl rfl x_fit_arr (x_dk dl_14_0_ok 75 rfl))))
  (x_Lok (x_rt (I := xJ) (k := 0) ⟨(x_dk dl_14_0_ok 76 rfl), rfl⟩))))))))
def tb_14 : Nat → xE := (x_T 64 tb_14_0 tb_14_38)
theorem tb_14_ok (K : xKx) (hK : x_KP K) : ∀ pc, x_EOq cls K xJ mq_14 pc (tb_14 pc) := (x_Tok2 (tb_14_0_ok K hK) (tb_14_38_ok K hK))
def dl_15_0 : List (Nat × Instr × Nat) := [(0, .iconst 0, 1), (1, .istore_n 1, 1), (2, .iload_n 1, 1), (3, .aload_n 0, 1), (4, .getfield 68, 3), (7, .if_icmp .ge 16, 3), (23, .iconst 0, 1), (24, .istore_n 1, 1), (25, .iload_n 1, 1), (26, .aload_n 0, 1), (27, .getfield 79, 3), (30, .if_icmp .ge 14, 3), (44, .return_, 1)]
set_option maxRecDepth 20000 in
theorem dl_15_0_ok : dl_15_0.all (fun q => decide (decode prog_6_method_6_code q.1 = .ok (q.2.1, q.2.2))) = true := xa_g_ok (by decide +kernel)
def tb_15_0 : Nat → xE := (x_T 7 (x_T 2 (x_T 0 (x_L 0 (0, xi_push (0, 0, 0) 1, 0, 0)) (x_T 1 (x_L 1 (0, xi_stor 1 0 2, 0, 0)) (x_L 2 (0, xi_load 1 0 3, 0, 0)))) (x_T 3 (x_L 3 (0, xi_load 0 2 4, 0, 0)) (x_T 4 (x_L 4 (0, xi_getf 4 0 7, 0, 0)) (x_L 7 (0, xi_if2 3 23 10, 0, 0))))) (x_T 25 (x_T 23 (x_L 23 (0, xi_push (0, 0, 0) 24, 0, 0)) (x_T 24 (x_L 24 (0, xi_stor 1 0 25, 0, 0)) (x_L 25 (0, xi_load 1 0 26, 0, 0)))) (x_T 27 (x_T 26 (x_L 26 (0, xi_load 0 2 27, 0, 0)) (x_L 27 (0, xi_getf 4 1 30, 0, 0))) (x_T 30 (x_L 30 (0, xi_if2 3 44 33, 0, 0)) (x_L 44 (1, x_nof, 0, 0))))))
set_option maxRecDepth 20000 in
set_option maxHeartbeats 4000000 in
theorem tb_15_0_ok (K : xKx) (hK : x_KP K) : ∀ pc, x_EOq cls K xJ mq_15 pc (tb_15_0 pc) :=
  (x_Tok2
  (x_Tok2
  (x_Tok2
  (x_Lok (x_st (I := xJ) (xr_iconst (n := 0) (z := 0) (v := 0) (x_dk dl_15_0_ok 0 rfl) (by decide) (by decide))))
  (x_Tok2
  (x_Lok (x_st (I := xJ) (xr_istore_n (i := 1) (x_dk dl_15_0_ok 1 rfl) (by decide +kernel))))
  (x_Lok (x_st (I := xJ) (xr_iload_n (i := 1) (x_dk dl_15_0_ok 2 rfl))))))
  (x_Tok2
  (x_Lok (x_st (I := xJ) (xr_aload_n (i := 0) (x_dk dl_15_0_ok 3 rfl))))
  (x_Tok2
  (x_Lok (x_st (I := xJ) (xr_getf (ci := 4) (k := 0) (ix := 68) (N := 20) (C := RX4) (T := TX4) rfl in_X4 (by decide) (in_t1 (List.mem_of_getElem? (i := 175) rfl) rfl) (x_dk dl_15_0_ok 4 rfl))))
  (x_Lok (x_st (I := xJ) (xr_icmpge (off := 16) (tg := 23) (x_dk dl_15_0_ok 5 rfl) (by decide)))))))
  (x_Tok2
  (x_Tok2
  (x_Lok (x_st (I := xJ) (xr_iconst (n := 0) (z := 0) (v := 0) (x_dk dl_15_0_ok 6 rfl) (by decide) (by decide))))
  (x_Tok2
  (x_Lok (x_st (I := xJ) (xr_istore_n (i := 1) (x_dk dl_15_0_ok 7 rfl) (by decide +kernel))))
  (x_Lok (x_st (I := xJ) (xr_iload_n (i := 1) (x_dk dl_15_0_ok 8 rfl))))))
  (x_Tok2
  (x_Tok2
  (x_Lok (x_st (I := xJ) (xr_aload_n (i := 0) (x_dk dl_15_0_ok 9 rfl))))
  (x_Lok (x_st (I := xJ) (xr_getf (ci := 4) (k := 1) (ix := 79) (N := 20) (C := RX4) (T := TX4) rfl in_X4 (by decide) (in_t1 (List.mem_of_getElem? (i := 177) rfl) rfl) (x_dk dl_15_0_ok 10 rfl)))))
  (x_Tok2
  (x_Lok (x_st (I := xJ) (xr_icmpge (off := 14) (tg := 44) (x_dk dl_15_0_ok 11 rfl) (by decide))))
  (x_Lok (x_rt (I := xJ) (k := 0) ⟨(x_dk dl_15_0_ok 12 rfl), rfl⟩))))))
def tb_15 : Nat → xE := tb_15_0
theorem tb_15_ok (K : xKx) (hK : x_KP K) : ∀ pc, x_EOq cls K xJ mq_15 pc (tb_15 pc) := tb_15_0_ok K hK
def dl_16_0 : List (Nat × Instr × Nat) := [(0, .aload_n 0, 1), (1, .invokespecial 3, 3), (4, .return_, 1)]
set_option maxRecDepth 20000 in
theorem dl_16_0_ok : dl_16_0.all (fun q => decide (decode prog_7_method_1_code q.1 = .ok (q.2.1, q.2.2))) = true := xa_g_ok (by decide +kernel)
def tb_16_0 : Nat → xE := (x_T 0 (x_L 0 (0, xi_load 0 2 1, 0, 0)) (x_T 1 (x_L 1 (0, xi_oi 4, 0, 0)) (x_L 4 (1, x_nof, 0, 0))))
set_option maxRecDepth 20000 in
set_option maxHeartbeats 4000000 in
theorem tb_16_0_ok (K : xKx) (hK : x_KP K) : ∀ pc, x_EOq cls K xJ mq_16 pc (tb_16_0 pc) :=
  (x_Tok2
  (x_Lok (x_st (I := xJ) (xr_aload_n (i := 0) (x_dk dl_16_0_ok 0 rfl))))
  (x_Tok2
  (x_Lok (x_st (I := xJ) (xr_oi (ix := 3) (in_t2 (List.mem_of_getElem? (i := 87) rfl) rfl) (in_t1 (List.mem_of_getElem? (i := 27) rfl) rfl) (in_t1 (List.mem_of_getElem? (i := 28) rfl) rfl) (x_dk dl_16_0_ok 1 rfl))))
  (x_Lok (x_rt (I := xJ) (k := 0) ⟨(x_dk dl_16_0_ok 2 rfl), rfl⟩))))
def tb_16 : Nat → xE := tb_16_0
theorem tb_16_ok (K : xKx) (hK : x_KP K) : ∀ pc, x_EOq cls K xJ mq_16 pc (tb_16 pc) := tb_16_0_ok K hK
def dl_17_0 : List (Nat × Instr × Nat) := [(0, .aload_n 0, 1), (1, .invokespecial 3, 3), (4, .aload_n 0, 1), (5, .bipush 6, 2), (7, .newarray .int, 2), (9, .putfield 9, 3), (12, .aload_n 0, 1), (13, .bipush 6, 2), (15, .newarray .int, 2), (17, .putfield 15, 3), (20, .aload_n 0, 1), (21, .bipush 6, 2), (23, .newarray .int, 2), (25, .putfield 18, 3), (28, .aload_n 0, 1), (29, .bipush 6, 2), (31, .newarray .int, 2), (33, .putfield 21, 3), (36, .aload_n 0, 1), (37, .sipush 1000, 3), (40, .newarray .int, 2), (42, .putfield 24, 3), (45, .aload_n 0, 1), (46, .sipush 1000, 3), (49, .newarray .int, 2), (51, .putfield 27, 3), (54, .aload_n 0, 1), (55, .ldc 30, 2), (57, .newarray .byte, 2), (59, .putfield 31, 3), (62, .aload_n 0, 1), (63, .bipush 60, 2), (65, .newarray .int, 2), (67, .putfield 35, 3), (70, .aload_n 0, 1), (71, .bipush 60, 2), (73, .newarray .int, 2), (75, .putfield 38, 3), (78, .return_, 1)]
set_option maxRecDepth 20000 in
theorem dl_17_0_ok : dl_17_0.all (fun q => decide (decode prog_8_method_1_code q.1 = .ok (q.2.1, q.2.2))) = true := xa_g_ok (by decide +kernel)
def tb_17_0 : Nat → xE := (x_T 36 (x_T 15 (x_T 5 (x_T 1 (x_T 0 (x_L 0 (0, xi_load 0 2 1, 0, 0)) (x_L 1 (0, xi_oi 4, 0, 0))) (x_T 4 (x_L 4 (0, xi_load 0 2 5, 0, 0)) (x_L 5 (0, xi_push (0, 6, 6) 7, 0, 0)))) (x_T 9 (x_T 7 (x_L 7 (0, xi_newa 1 0 (0, 0, 0) (xm_c mq_17) (xm_s mq_17) 9, 0, 0)) (x_L 9 (0, xi_putf 6 4 2 12, 0, 0))) (x_T 12 (x_L 12 (0, xi_load 0 2 13, 0, 0)) (x_T 13 (x_L 13 (0, xi_push (0, 6, 6) 15, 0, 0)) (x_L 15 (0, xi_newa 1 0 (0, 0, 0) (xm_c mq_17) (xm_s mq_17) 17, 0, 0)))))) (x_T 25 (x_T 20 (x_T 17 (x_L 17 (0, xi_putf 6 5 2 20, 0, 0)) (x_L 20 (0, xi_load 0 2 21, 0, 0))) (x_T 21 (x_L 21 (0, xi_push (0, 6, 6) 23, 0, 0)) (x_T 23 (x_L 23 (0, xi_newa 1 0 (0, 0, 0) (xm_c mq_17) (xm_s mq_17) 25, 0, 0)) (x_L 25 (0, xi_putf 6 6 2 28, 0, 0))))) (x_T 29 (x_T 28 (x_L 28 (0, xi_load 0 2 29, 0, 0)) (x_L 29 (0, xi_push (0, 6, 6) 31, 0, 0))) (x_T 31 (x_L 31 (0, xi_newa 1 0 (0, 0, 0) (xm_c mq_17) (xm_s mq_17) 33, 0, 0)) (x_T 33 (x_L 33 (0, xi_putf 6 7 2 36, 0, 0)) (x_L 36 (0, xi_load 0 2 37, 0, 0))))))) (x_T 57 (x_T 46 (x_T 40 (x_T 37 (x_L 37 (0, xi_push (0, 1000, 1000) 40, 0, 0)) (x_L 40 (0, xi_newa 1 0 (0, 0, 0) (xm_c mq_17) (xm_s mq_17) 42, 0, 0))) (x_T 42 (x_L 42 (0, xi_putf 6 8 2 45, 0, 0)) (x_T 45 (x_L 45 (0, xi_load 0 2 46, 0, 0)) (x_L 46 (0, xi_push (0, 1000, 1000) 49, 0, 0))))) (x_T 51 (x_T 49 (x_L 49 (0, xi_newa 1 0 (0, 0, 0) (xm_c mq_17) (xm_s mq_17) 51, 0, 0)) (x_L 51 (0, xi_putf 6 9 2 54, 0, 0))) (x_T 54 (x_L 54 (0, xi_load 0 2 55, 0, 0)) (x_T 55 (x_L 55 (0, xi_push (0, 60000, 60000) 57, 0, 0)) (x_L 57 (0, xi_newa 2 0 (0, 0, 0) (xm_c mq_17) (xm_s mq_17) 59, 0, 0)))))) (x_T 67 (x_T 62 (x_T 59 (x_L 59 (0, xi_putf 6 10 2 62, 0, 0)) (x_L 62 (0, xi_load 0 2 63, 0, 0))) (x_T 63 (x_L 63 (0, xi_push (0, 60, 60) 65, 0, 0)) (x_T 65 (x_L 65 (0, xi_newa 1 0 (0, 0, 0) (xm_c mq_17) (xm_s mq_17) 67, 0, 0)) (x_L 67 (0, xi_putf 6 11 2 70, 0, 0))))) (x_T 71 (x_T 70 (x_L 70 (0, xi_load 0 2 71, 0, 0)) (x_L 71 (0, xi_push (0, 60, 60) 73, 0, 0))) (x_T 73 (x_L 73 (0, xi_newa 1 0 (0, 0, 0) (xm_c mq_17) (xm_s mq_17) 75, 0, 0)) (x_T 75 (x_L 75 (0, xi_putf 6 12 2 78, 0, 0)) (x_L 78 (1, x_nof, 0, 0))))))))
set_option maxRecDepth 20000 in
set_option maxHeartbeats 4000000 in
theorem tb_17_0_ok (K : xKx) (hK : x_KP K) : ∀ pc, x_EOq cls K xJ mq_17 pc (tb_17_0 pc) :=
  (x_Tok2
  (x_Tok2
  (x_Tok2
  (x_Tok2
  (x_Tok2
  (x_Lok (x_st (I := xJ) (xr_aload_n (i := 0) (x_dk dl_17_0_ok 0 rfl))))
  (x_Lok (x_st (I := xJ) (xr_oi (ix := 3) (in_t3 (List.mem_of_getElem? (i := 197) rfl) rfl) (in_t1 (List.mem_of_getElem? (i := 27) rfl) rfl) (in_t1 (List.mem_of_getElem? (i := 28) rfl) rfl) (x_dk dl_17_0_ok 1 rfl)))))
  (x_Tok2
  (x_Lok (x_st (I := xJ) (xr_aload_n (i := 0) (x_dk dl_17_0_ok 2 rfl))))
  (x_Lok (x_st (I := xJ) (xr_bipush (n := 6) (z := 6) (v := 6) (x_dk dl_17_0_ok 3 rfl) (by decide) (by decide))))))
  (x_Tok2
  (x_Tok2
  (x_Lok (x_st (I := xJ) (xr_newa (kd := 1) (b := false) (ty := .int) rfl rfl (in_t1 (List.mem_of_getElem? (i := 64) rfl) rfl) (x_dk dl_17_0_ok 4 rfl))))
  (x_Lok (x_st (I := xJ) (xr_putF (ci := 6) (k := 4) (ix := 9) (N := 13) (fk := 2) (C := RX6) (T := TX6) (ty0 := tyX6) (ty := .array .int) rfl in_X6 tyX6_ok nmX6 (by decide) (in_t3 (List.mem_of_getElem? (i := 203) rfl) rfl) rfl rfl rfl rfl x_fit_arr (x_dk dl_17_0_ok 5 rfl)))))
  (x_Tok2
  (x_Lok (x_st (I := xJ) (xr_aload_n (i := 0) (x_dk dl_17_0_ok 6 rfl))))
  (x_Tok2
  (x_Lok (x_st (I := xJ) (xr_bipush (n := 6) (z := 6) (v := 6) (x_dk dl_17_0_ok 7 rfl) (by decide) (by decide))))
  (x_Lok (x_st (I := xJ) (xr_newa (kd := 1) (b := false) (ty := .int) rfl rfl (in_t1 (List.mem_of_getElem? (i := 64) rfl) rfl) (x_dk dl_17_0_ok 8 rfl))))))))
  (x_Tok2
  (x_Tok2
  (x_Tok2
  (x_Lok (x_st (I := xJ) (xr_putF (ci := 6) (k := 5) (ix := 15) (N := 13) (fk := 2) (C := RX6) (T := TX6) (ty0 := tyX6) (ty := .array .int) rfl in_X6 tyX6_ok nmX6 (by decide) (in_t3 (List.mem_of_getElem? (i := 204) rfl) rfl) rfl rfl rfl rfl x_fit_arr (x_dk dl_17_0_ok 9 rfl))))
  (x_Lok (x_st (I := xJ) (xr_aload_n (i := 0) (x_dk dl_17_0_ok 10 rfl)))))
  (x_Tok2
  (x_Lok (x_st (I := xJ) (xr_bipush (n := 6) (z := 6) (v := 6) (x_dk dl_17_0_ok 11 rfl) (by decide) (by decide))))
  (x_Tok2
  (x_Lok (x_st (I := xJ) (xr_newa (kd := 1) (b := false) (ty := .int) rfl rfl (in_t1 (List.mem_of_getElem? (i := 64) rfl) rfl) (x_dk dl_17_0_ok 12 rfl))))
  (x_Lok (x_st (I := xJ) (xr_putF (ci := 6) (k := 6) (ix := 18) (N := 13) (fk := 2) (C := RX6) (T := TX6) (ty0 := tyX6) (ty := .array .int) rfl in_X6 tyX6_ok nmX6 (by decide) (in_t3 (List.mem_of_getElem? (i := 205) rfl) rfl) rfl rfl rfl rfl x_fit_arr (x_dk dl_17_0_ok 13 rfl)))))))
  (x_Tok2
  (x_Tok2
  (x_Lok (x_st (I := xJ) (xr_aload_n (i := 0) (x_dk dl_17_0_ok 14 rfl))))
  (x_Lok (x_st (I := xJ) (xr_bipush (n := 6) (z := 6) (v := 6) (x_dk dl_17_0_ok 15 rfl) (by decide) (by decide)))))
  (x_Tok2
  (x_Lok (x_st (I := xJ) (xr_newa (kd := 1) (b := false) (ty := .int) rfl rfl (in_t1 (List.mem_of_getElem? (i := 64) rfl) rfl) (x_dk dl_17_0_ok 16 rfl))))
  (x_Tok2
  (x_Lok (x_st (I := xJ) (xr_putF (ci := 6) (k := 7) (ix := 21) (N := 13) (fk := 2) (C := RX6) (T := TX6) (ty0 := tyX6) (ty := .array .int) rfl in_X6 tyX6_ok nmX6 (by decide) (in_t3 (List.mem_of_getElem? (i := 206) rfl) rfl) rfl rfl rfl rfl x_fit_arr (x_dk dl_17_0_ok 17 rfl))))
  (x_Lok (x_st (I := xJ) (xr_aload_n (i := 0) (x_dk dl_17_0_ok 18 rfl)))))))))
  (x_Tok2
  (x_Tok2
  (x_Tok2
  (x_Tok2
  (x_Lok (x_st (I := xJ) (xr_sipush (n := 1000) (z := 1000) (v := 1000) (x_dk dl_17_0_ok 19 rfl) (by decide) (by decide))))
  (x_Lok (x_st (I := xJ) (xr_newa (kd := 1) (b := false) (ty := .int) rfl rfl (in_t1 (List.mem_of_getElem? (i := 64) rfl) rfl) (x_dk dl_17_0_ok 20 rfl)))))
  (x_Tok2
  (x_Lok (x_st (I := xJ) (xr_putF (ci := 6) (k := 8) (ix := 24) (N := 13) (fk := 2) (C := RX6) (T := TX6) (ty0 := tyX6) (ty := .array .int) rfl in_X6 tyX6_ok nmX6 (by decide) (in_t3 (List.mem_of_getElem? (i := 207) rfl) rfl) rfl rfl rfl rfl x_fit_arr (x_dk dl_17_0_ok 21 rfl))))
  (x_Tok2
  (x_Lok (x_st (I := xJ) (xr_aload_n (i := 0) (x_dk dl_17_0_ok 22 rfl))))
  (x_Lok (x_st (I := xJ) (xr_sipush (n := 1000) (z := 1000) (v := 1000) (x_dk dl_17_0_ok 23 rfl) (by decide) (by decide)))))))
  (x_Tok2
  (x_Tok2
  (x_Lok (x_st (I := xJ) (xr_newa (kd := 1) (b := false) (ty := .int) rfl rfl (in_t1 (List.mem_of_getElem? (i := 64) rfl) rfl) (x_dk dl_17_0_ok 24 rfl))))
  (x_Lok (x_st (I := xJ) (xr_putF (ci := 6) (k := 9) (ix := 27) (N := 13) (fk := 2) (C := RX6) (T := TX6) (ty0 := tyX6) (ty := .array .int) rfl in_X6 tyX6_ok nmX6 (by decide) (in_t3 (List.mem_of_getElem? (i := 208) rfl) rfl) rfl rfl rfl rfl x_fit_arr (x_dk dl_17_0_ok 25 rfl)))))
  (x_Tok2
  (x_Lok (x_st (I := xJ) (xr_aload_n (i := 0) (x_dk dl_17_0_ok 26 rfl))))
  (x_Tok2
  (x_Lok (x_st (I := xJ) (xr_ldc (ix := 30) (z := 60000) (v := 60000) (x_dk dl_17_0_ok 27 rfl) (in_t3 (List.mem_of_getElem? (i := 198) rfl) rfl) (by decide))))
  (x_Lok (x_st (I := xJ) (xr_newa (kd := 2) (b := true) (ty := .byte) rfl rfl (in_t1 (List.mem_of_getElem? (i := 121) rfl) rfl) (x_dk dl_17_0_ok 28 rfl))))))))
  (x_Tok2
  (x_Tok2
  (x_Tok2
  (x_Lok (x_st (I := xJ) (xr_putF (ci := 6) (k := 10) (ix := 31) (N := 13) (fk := 2) (C := RX6) (T := TX6) (ty0 := tyX6) (ty := .array .byte) rfl in_X6 tyX6_ok nmX6 (by decide) (in_t3 (List.mem_of_getElem? (i := 209) rfl) rfl) rfl rfl rfl rfl x_fit_arr (x_dk dl_17_0_ok 29 rfl))))
  (x_Lok (x_st (I := xJ) (xr_aload_n (i := 0) (x_dk dl_17_0_ok 30 rfl)))))
  (x_Tok2
  (x_Lok (x_st (I := xJ) (xr_bipush (n := 60) (z := 60) (v := 60) (x_dk dl_17_0_ok 31 rfl) (by decide) (by decide))))
  (x_Tok2
  (x_Lok (x_st (I := xJ) (xr_newa (kd := 1) (b := false) (ty := .int) rfl rfl (in_t1 (List.mem_of_getElem? (i := 64) rfl) rfl) (x_dk dl_17_0_ok 32 rfl))))
  (x_Lok (x_st (I := xJ) (xr_putF (ci := 6) (k := 11) (ix := 35) (N := 13) (fk := 2) (C := RX6) (T := TX6) (ty0 := tyX6) (ty := .array .int) rfl in_X6 tyX6_ok nmX6 (by decide) (in_t3 (List.mem_of_getElem? (i := 210) rfl) rfl) rfl rfl rfl rfl x_fit_arr (x_dk dl_17_0_ok 33 rfl)))))))
  (x_Tok2
  (x_Tok2
  (x_Lok (x_st (I := xJ) (xr_aload_n (i := 0) (x_dk dl_17_0_ok 34 rfl))))
  (x_Lok (x_st (I := xJ) (xr_bipush (n := 60) (z := 60) (v := 60) (x_dk dl_17_0_ok 35 rfl) (by decide) (by decide)))))
  (x_Tok2
  (x_Lok (x_st (I := xJ) (xr_newa (kd := 1) (b := false) (ty := .int) rfl rfl (in_t1 (List.mem_of_getElem? (i := 64) rfl) rfl) (x_dk dl_17_0_ok 36 rfl))))
  (x_Tok2
  (x_Lok (x_st (I := xJ) (xr_putF (ci := 6) (k := 12) (ix := 38) (N := 13) (fk := 2) (C := RX6) (T := TX6) (ty0 := tyX6) (ty := .array .int) rfl in_X6 tyX6_ok nmX6 (by decide) (in_t3 (List.mem_of_getElem? (i := 211) rfl) rfl) rfl rfl rfl rfl x_fit_arr (x_dk dl_17_0_ok 37 rfl))))
  (x_Lok (x_rt (I := xJ) (k := 0) ⟨(x_dk dl_17_0_ok 38 rfl), rfl⟩))))))))
def tb_17 : Nat → xE := tb_17_0
theorem tb_17_ok (K : xKx) (hK : x_KP K) : ∀ pc, x_EOq cls K xJ mq_17 pc (tb_17 pc) := tb_17_0_ok K hK
def dl_18_0 : List (Nat × Instr × Nat) := [(0, .aload_n 0, 1), (1, .invokespecial 3, 3), (4, .aload_n 0, 1), (5, .bipush 64, 2), (7, .newarray .int, 2), (9, .putfield 9, 3), (12, .aload_n 0, 1), (13, .bipush 64, 2), (15, .newarray .int, 2), (17, .putfield 15, 3), (20, .aload_n 0, 1), (21, .bipush 64, 2), (23, .newarray .int, 2), (25, .putfield 18, 3), (28, .aload_n 0, 1), (29, .bipush 64, 2), (31, .newarray .int, 2), (33, .putfield 21, 3), (36, .aload_n 0, 1), (37, .bipush 64, 2), (39, .newarray .int, 2), (41, .putfield 24, 3), (44, .aload_n 0, 1), (45, .bipush 64, 2), (47, .newarray .boolean, 2), (49, .putfield 27, 3), (52, .aload_n 0, 1), (53, .bipush 64, 2), (55, .newarray .boolean, 2), (57, .putfield 31, 3), (60, .aload_n 0, 1), (61, .bipush 64, 2), (63, .newarray .int, 2), (65, .putfield 34, 3), (68, .return_, 1)]
set_option maxRecDepth 20000 in
theorem dl_18_0_ok : dl_18_0.all (fun q => decide (decode prog_9_method_1_code q.1 = .ok (q.2.1, q.2.2))) = true := xa_g_ok (by decide +kernel)
def tb_18_0 : Nat → xE := (x_T 31 (x_T 13 (x_T 5 (x_T 1 (x_T 0 (x_L 0 (0, xi_load 0 2 1, 0, 0)) (x_L 1 (0, xi_oi 4, 0, 0))) (x_T 4 (x_L 4 (0, xi_load 0 2 5, 0, 0)) (x_L 5 (0, xi_push (0, 64, 64) 7, 0, 0)))) (x_T 9 (x_T 7 (x_L 7 (0, xi_newa 1 0 (0, 0, 0) (xm_c mq_18) (xm_s mq_18) 9, 0, 0)) (x_L 9 (0, xi_putf 7 0 2 12, 0, 0))) (x_T 12 (x_L 12 (0, xi_load 0 2 13, 0, 0)) (x_L 13 (0, xi_push (0, 64, 64) 15, 0, 0))))) (x_T 21 (x_T 17 (x_T 15 (x_L 15 (0, xi_newa 1 0 (0, 0, 0) (xm_c mq_18) (xm_s mq_18) 17, 0, 0)) (x_L 17 (0, xi_putf 7 1 2 20, 0, 0))) (x_T 20 (x_L 20 (0, xi_load 0 2 21, 0, 0)) (x_L 21 (0, xi_push (0, 64, 64) 23, 0, 0)))) (x_T 25 (x_T 23 (x_L 23 (0, xi_newa 1 0 (0, 0, 0) (xm_c mq_18) (xm_s mq_18) 25, 0, 0)) (x_L 25 (0, xi_putf 7 2 2 28, 0, 0))) (x_T 28 (x_L 28 (0, xi_load 0 2 29, 0, 0)) (x_T 29 (x_L 29 (0, xi_push (0, 64, 64) 31, 0, 0)) (x_L 31 (0, xi_newa 1 0 (0, 0, 0) (xm_c mq_18) (xm_s mq_18) 33, 0, 0))))))) (x_T 49 (x_T 39 (x_T 36 (x_T 33 (x_L 33 (0, xi_putf 7 3 2 36, 0, 0)) (x_L 36 (0, xi_load 0 2 37, 0, 0))) (x_T 37 (x_L 37 (0, xi_push (0, 64, 64) 39, 0, 0)) (x_L 39 (0, xi_newa 1 0 (0, 0, 0) (xm_c mq_18) (xm_s mq_18) 41, 0, 0)))) (x_T 44 (x_T 41 (x_L 41 (0, xi_putf 7 4 2 44, 0, 0)) (x_L 44 (0, xi_load 0 2 45, 0, 0))) (x_T 45 (x_L 45 (0, xi_push (0, 64, 64) 47, 0, 0)) (x_T 47 (x_L 47 (0, xi_newa 3 0 (0, 0, 0) (xm_c mq_18) (xm_s mq_18) 49, 0, 0)) (x_L 49 (0, xi_putf 7 5 2 52, 0, 0)))))) (x_T 57 (x_T 53 (x_T 52 (x_L 52 (0, xi_load 0 2 53, 0, 0)) (x_L 53 (0, xi_push (0, 64, 64) 55, 0, 0))) (x_T 55 (x_L 55 (0, xi_newa 3 0 (0, 0, 0) (xm_c mq_18) (xm_s mq_18) 57, 0, 0)) (x_L 57 (0, xi_putf 7 6 2 60, 0, 0)))) (x_T 61 (x_T 60 (x_L 60 (0, xi_load 0 2 61, 0, 0)) (x_L 61 (0, xi_push (0, 64, 64) 63, 0, 0))) (x_T 63 (x_L 63 (0, xi_newa 1 0 (0, 0, 0) (xm_c mq_18) (xm_s mq_18) 65, 0, 0)) (x_T 65 (x_L 65 (0, xi_putf 7 7 2 68, 0, 0)) (x_L 68 (1, x_nof, 0, 0))))))))
set_option maxRecDepth 20000 in
set_option maxHeartbeats 4000000 in
theorem tb_18_0_ok (K : xKx) (hK : x_KP K) : ∀ pc, x_EOq cls K xJ mq_18 pc (tb_18_0 pc) :=
  (x_Tok2
  (x_Tok2
  (x_Tok2
  (x_Tok2
  (x_Tok2
  (x_Lok (x_st (I := xJ) (xr_aload_n (i := 0) (x_dk dl_18_0_ok 0 rfl))))
  (x_Lok (x_st (I := xJ) (xr_oi (ix := 3) (in_t1 (List.mem_of_getElem? (i := 135) rfl) rfl) (in_t1 (List.mem_of_getElem? (i := 27) rfl) rfl) (in_t1 (List.mem_of_getElem? (i := 28) rfl) rfl) (x_dk dl_18_0_ok 1 rfl)))))
  (x_Tok2
  (x_Lok (x_st (I := xJ) (xr_aload_n (i := 0) (x_dk dl_18_0_ok 2 rfl))))
  (x_Lok (x_st (I := xJ) (xr_bipush (n := 64) (z := 64) (v := 64) (x_dk dl_18_0_ok 3 rfl) (by decide) (by decide))))))
  (x_Tok2
  (x_Tok2
  (x_Lok (x_st (I := xJ) (xr_newa (kd := 1) (b := false) (ty := .int) rfl rfl (in_t1 (List.mem_of_getElem? (i := 64) rfl) rfl) (x_dk dl_18_0_ok 4 rfl))))
  (x_Lok (x_st (I := xJ) (xr_putF (ci := 7) (k := 0) (ix := 9) (N := 8) (fk := 2) (C := RX7) (T := TX7) (ty0 := tyX7) (ty := .array .int) rfl in_X7 tyX7_ok nmX7 (by decide) (in_t1 (List.mem_of_getElem? (i := 136) rfl) rfl) rfl rfl rfl rfl x_fit_arr (x_dk dl_18_0_ok 5 rfl)))))
  (x_Tok2
  (x_Lok (x_st (I := xJ) (xr_aload_n (i := 0) (x_dk dl_18_0_ok 6 rfl))))
  (x_Lok (x_st (I := xJ) (xr_bipush (n := 64) (z := 64) (v := 64) (x_dk dl_18_0_ok 7 rfl) (by decide) (by decide)))))))
  (x_Tok2
  (x_Tok2
  (x_Tok2
  (x_Lok (x_st (I := xJ) (xr_newa (kd := 1) (b := false) (ty := .int) rfl rfl (in_t1 (List.mem_of_getElem? (i := 64) rfl) rfl) (x_dk dl_18_0_ok 8 rfl))))
  (x_Lok (x_st (I := xJ) (xr_putF (ci := 7) (k := 1) (ix := 15) (N := 8) (fk := 2) (C := RX7) (T := TX7) (ty0 := tyX7) (ty := .array .int) rfl in_X7 tyX7_ok nmX7 (by decide) (in_t1 (List.mem_of_getElem? (i := 138) rfl) rfl) rfl rfl rfl rfl x_fit_arr (x_dk dl_18_0_ok 9 rfl)))))
  (x_Tok2
  (x_Lok (x_st (I := xJ) (xr_aload_n (i := 0) (x_dk dl_18_0_ok 10 rfl))))
  (x_Lok (x_st (I := xJ) (xr_bipush (n := 64) (z := 64) (v := 64) (x_dk dl_18_0_ok 11 rfl) (by decide) (by decide))))))
  (x_Tok2
  (x_Tok2
  (x_Lok (x_st (I := xJ) (xr_newa (kd := 1) (b := false) (ty := .int) rfl rfl (in_t1 (List.mem_of_getElem? (i := 64) rfl) rfl) (x_dk dl_18_0_ok 12 rfl))))
  (x_Lok (x_st (I := xJ) (xr_putF (ci := 7) (k := 2) (ix := 18) (N := 8) (fk := 2) (C := RX7) (T := TX7) (ty0 := tyX7) (ty := .array .int) rfl in_X7 tyX7_ok nmX7 (by decide) (in_t1 (List.mem_of_getElem? (i := 141) rfl) rfl) rfl rfl rfl rfl x_fit_arr (x_dk dl_18_0_ok 13 rfl)))))
  (x_Tok2
  (x_Lok (x_st (I := xJ) (xr_aload_n (i := 0) (x_dk dl_18_0_ok 14 rfl))))
  (x_Tok2
  (x_Lok (x_st (I := xJ) (xr_bipush (n := 64) (z := 64) (v := 64) (x_dk dl_18_0_ok 15 rfl) (by decide) (by decide))))
  (x_Lok (x_st (I := xJ) (xr_newa (kd := 1) (b := false) (ty := .int) rfl rfl (in_t1 (List.mem_of_getElem? (i := 64) rfl) rfl) (x_dk dl_18_0_ok 16 rfl)))))))))
  (x_Tok2
  (x_Tok2
  (x_Tok2
  (x_Tok2
  (x_Lok (x_st (I := xJ) (xr_putF (ci := 7) (k := 3) (ix := 21) (N := 8) (fk := 2) (C := RX7) (T := TX7) (ty0 := tyX7) (ty := .array .int) rfl in_X7 tyX7_ok nmX7 (by decide) (in_t1 (List.mem_of_getElem? (i := 144) rfl) rfl) rfl rfl rfl rfl x_fit_arr (x_dk dl_18_0_ok 17 rfl))))
  (x_Lok (x_st (I := xJ) (xr_aload_n (i := 0) (x_dk dl_18_0_ok 18 rfl)))))
  (x_Tok2
  (x_Lok (x_st (I := xJ) (xr_bipush (n := 64) (z := 64) (v := 64) (x_dk dl_18_0_ok 19 rfl) (by decide) (by decide))))
  (x_Lok (x_st (I := xJ) (xr_newa (kd := 1) (b := false) (ty := .int) rfl rfl (in_t1 (List.mem_of_getElem? (i := 64) rfl) rfl) (x_dk dl_18_0_ok 20 rfl))))))
  (x_Tok2
  (x_Tok2
  (x_Lok (x_st (I := xJ) (xr_putF (ci := 7) (k := 4) (ix := 24) (N := 8) (fk := 2) (C := RX7) (T := TX7) (ty0 := tyX7) (ty := .array .int) rfl in_X7 tyX7_ok nmX7 (by decide) (in_t1 (List.mem_of_getElem? (i := 145) rfl) rfl) rfl rfl rfl rfl x_fit_arr (x_dk dl_18_0_ok 21 rfl))))
  (x_Lok (x_st (I := xJ) (xr_aload_n (i := 0) (x_dk dl_18_0_ok 22 rfl)))))
  (x_Tok2
  (x_Lok (x_st (I := xJ) (xr_bipush (n := 64) (z := 64) (v := 64) (x_dk dl_18_0_ok 23 rfl) (by decide) (by decide))))
  (x_Tok2
  (x_Lok (x_st (I := xJ) (xr_newa (kd := 3) (b := true) (ty := .boolean) rfl rfl (in_t1 (List.mem_of_getElem? (i := 166) rfl) rfl) (x_dk dl_18_0_ok 24 rfl))))
  (x_Lok (x_st (I := xJ) (xr_putF (ci := 7) (k := 5) (ix := 27) (N := 8) (fk := 2) (C := RX7) (T := TX7) (ty0 := tyX7) (ty := .array .boolean) rfl in_X7 tyX7_ok nmX7 (by decide) (in_t1 (List.mem_of_getElem? (i := 146) rfl) rfl) rfl rfl rfl rfl x_fit_arr (x_dk dl_18_0_ok 25 rfl))))))))
  (x_Tok2
  (x_Tok2
  (x_Tok2
  (x_Lok (x_st (I := xJ) (xr_aload_n (i := 0) (x_dk dl_18_0_ok 26 rfl))))
  (x_Lok (x_st (I := xJ) (xr_bipush (n := 64) (z := 64) (v := 64) (x_dk dl_18_0_ok 27 rfl) (by decide) (by decide)))))
  (x_Tok2
  (x_Lok (x_st (I := xJ) (xr_newa (kd := 3) (b := true) (ty := .boolean) rfl rfl (in_t1 (List.mem_of_getElem? (i := 166) rfl) rfl) (x_dk dl_18_0_ok 28 rfl))))
  (x_Lok (x_st (I := xJ) (xr_putF (ci := 7) (k := 6) (ix := 31) (N := 8) (fk := 2) (C := RX7) (T := TX7) (ty0 := tyX7) (ty := .array .boolean) rfl in_X7 tyX7_ok nmX7 (by decide) (in_t1 (List.mem_of_getElem? (i := 147) rfl) rfl) rfl rfl rfl rfl x_fit_arr (x_dk dl_18_0_ok 29 rfl))))))
  (x_Tok2
  (x_Tok2
  (x_Lok (x_st (I := xJ) (xr_aload_n (i := 0) (x_dk dl_18_0_ok 30 rfl))))
  (x_Lok (x_st (I := xJ) (xr_bipush (n := 64) (z := 64) (v := 64) (x_dk dl_18_0_ok 31 rfl) (by decide) (by decide)))))
  (x_Tok2
  (x_Lok (x_st (I := xJ) (xr_newa (kd := 1) (b := false) (ty := .int) rfl rfl (in_t1 (List.mem_of_getElem? (i := 64) rfl) rfl) (x_dk dl_18_0_ok 32 rfl))))
  (x_Tok2
  (x_Lok (x_st (I := xJ) (xr_putF (ci := 7) (k := 7) (ix := 34) (N := 8) (fk := 2) (C := RX7) (T := TX7) (ty0 := tyX7) (ty := .array .int) rfl in_X7 tyX7_ok nmX7 (by decide) (in_t1 (List.mem_of_getElem? (i := 148) rfl) rfl) rfl rfl rfl rfl x_fit_arr (x_dk dl_18_0_ok 33 rfl))))
  (x_Lok (x_rt (I := xJ) (k := 0) ⟨(x_dk dl_18_0_ok 34 rfl), rfl⟩))))))))
def tb_18 : Nat → xE := tb_18_0
theorem tb_18_ok (K : xKx) (hK : x_KP K) : ∀ pc, x_EOq cls K xJ mq_18 pc (tb_18 pc) := tb_18_0_ok K hK
def dl_19_0 : List (Nat × Instr × Nat) := [(0, .aload_n 0, 1), (1, .getfield 24, 3), (4, .iconst (-1), 1), (5, .invokestatic 37, 3), (8, .aload_n 0, 1), (9, .invokevirtual 43, 3), (12, .return_, 1)]
set_option maxRecDepth 20000 in
theorem dl_19_0_ok : dl_19_0.all (fun q => decide (decode prog_9_method_2_code q.1 = .ok (q.2.1, q.2.2))) = true := xa_g_ok (by decide +kernel)
def tb_19_0 : Nat → xE := (x_T 4 (x_T 0 (x_L 0 (0, xi_load 0 2 1, 0, 0)) (x_T 1 (x_L 1 (0, xi_getf 7 4 4, 0, 0)) (x_L 4 (0, xi_push (0, (-1), (-1)) 5, 0, 0)))) (x_T 8 (x_T 5 (x_L 5 (2, x_nof, 40, 2)) (x_L 8 (0, xi_load 0 2 9, 0, 0))) (x_T 9 (x_L 9 (2, x_nof, 21, 1)) (x_L 12 (1, x_nof, 0, 0)))))
set_option maxRecDepth 20000 in
set_option maxHeartbeats 4000000 in
theorem tb_19_0_ok (K : xKx) (hK : x_KP K) : ∀ pc, x_EOq cls K xJ mq_19 pc (tb_19_0 pc) :=
  (x_Tok2
  (x_Tok2
  (x_Lok (x_st (I := xJ) (xr_aload_n (i := 0) (x_dk dl_19_0_ok 0 rfl))))
  (x_Tok2
  (x_Lok (x_st (I := xJ) (xr_getf (ci := 7) (k := 4) (ix := 24) (N := 8) (C := RX7) (T := TX7) rfl in_X7 (by decide) (in_t1 (List.mem_of_getElem? (i := 145) rfl) rfl) (x_dk dl_19_0_ok 1 rfl))))
  (x_Lok (x_st (I := xJ) (xr_iconst (n := (-1)) (z := (-1)) (v := (-1)) (x_dk dl_19_0_ok 2 rfl) (by decide) (by decide))))))
  (x_Tok2
  (x_Tok2
  (x_Lok (x_ca (I := xJ) (q' := mq_40) rfl (xr_callS (q' := mq_40) (ix := 37) (n := 2) (in_t4 (List.mem_of_getElem? (i := 9) rfl) rfl) good_w (in_t1 (List.mem_of_getElem? (i := 13) rfl) rfl) (in_t4 (List.mem_of_getElem? (i := 44) rfl) rfl) (in_t4 (List.mem_of_getElem? (i := 8) rfl) rfl) (by decide +kernel) (by decide +kernel) (x_dk dl_19_0_ok 3 rfl))))
  (x_Lok (x_st (I := xJ) (xr_aload_n (i := 0) (x_dk dl_19_0_ok 4 rfl)))))
  (x_Tok2
  (x_Lok (x_ca (I := xJ) (q' := mq_21) rfl (xr_callV (q' := mq_21) (ix := 43) (n := 0) (in_t4 (List.mem_of_getElem? (i := 48) rfl) rfl) good_w (in_t1 (List.mem_of_getElem? (i := 5) rfl) rfl) (in_t4 (List.mem_of_getElem? (i := 45) rfl) rfl) (in_t4 (List.mem_of_getElem? (i := 47) rfl) rfl) (in_s1 (List.mem_of_getElem? (i := 1) rfl)) (by decide +kernel) (by decide +kernel) (by decide +kernel) (x_dk dl_19_0_ok 5 rfl))))
  (x_Lok (x_rt (I := xJ) (k := 0) ⟨(x_dk dl_19_0_ok 6 rfl), rfl⟩)))))
def tb_19 : Nat → xE := tb_19_0
theorem tb_19_ok (K : xKx) (hK : x_KP K) : ∀ pc, x_EOq cls K xJ mq_19 pc (tb_19 pc) := tb_19_0_ok K hK
def dl_20_0 : List (Nat × Instr × Nat) := [(0, .aload_n 0, 1), (1, .getfield 9, 3), (4, .iconst 0, 1), (5, .invokestatic 37, 3), (8, .iconst 0, 1), (9, .istore_n 1, 1), (10, .iload_n 1, 1), (11, .bipush 64, 2), (13, .if_icmp .ge 16, 3), (16, .aload_n 0, 1), (17, .getfield 27, 3), (20, .iload_n 1, 1), (21, .iconst 0, 1), (22, .bastore, 1), (23, .iinc 1 1, 3), (26, .goto (-16), 3), (29, .aload_n 0, 1), (30, .invokevirtual 46, 3), (33, .aload_n 0, 1), (34, .getfield 18, 3), (37, .iconst 0, 1), (38, .invokestatic 37, 3), (41, .return_, 1)]
set_option maxRecDepth 20000 in
theorem dl_20_0_ok : dl_20_0.all (fun q => decide (decode prog_9_method_3_code q.1 = .ok (q.2.1, q.2.2))) = true := xa_g_ok (by decide +kernel)
def tb_20_0 : Nat → xE := (x_T 17 (x_T 8 (x_T 1 (x_T 0 (x_L 0 (0, xi_load 0 2 1, 0, 0)) (x_L 1 (0, xi_getf 7 0 4, 0, 0))) (x_T 4 (x_L 4 (0, xi_push (0, 0, 0) 5, 0, 0)) (x_T 5 (x_L 5 (2, x_nof, 40, 2)) (x_L 8 (0, xi_push (0, 0, 0) 9, 0, 0))))) (x_T 11 (x_T 9 (x_L 9 (0, xi_stor 1 0 10, 0, 0)) (x_T 10 (x_L 10 (0, xi_load 1 0 11, 0, 0)) (x_L 11 (0, xi_push (0, 64, 64) 13, 0, 0)))) (x_T 13 (x_L 13 (0, xi_if2 3 29 16, 0, 0)) (x_T 16 (x_L 16 (0, xi_load 0 2 17, 0, 0)) (x_L 17 (0, xi_getf 7 5 20, 0, 0)))))) (x_T 29 (x_T 22 (x_T 20 (x_L 20 (0, xi_load 1 0 21, 0, 0)) (x_T 21 (x_L 21 (0, xi_push (0, 0, 0) 22, 0, 0)) (x_L 22 (0, xi_ast true 23, 0, 0)))) (x_T 23 (x_L 23 (0, xi_inc 1 1 26, 0, 0)) (x_T 26 (x_L 26 (0, xi_goto 10, 0, 0)) (x_L 29 (0, xi_load 0 2 30, 0, 0))))) (x_T 34 (x_T 30 (x_L 30 (2, x_nof, 22, 1)) (x_T 33 (x_L 33 (0, xi_load 0 2 34, 0, 0)) (x_L 34 (0, xi_getf 7 2 37, 0, 0)))) (x_T 37 (x_L 37 (0, xi_push (0, 0, 0) 38, 0, 0)) (x_T 38 (x_L 38 (2, x_nof, 40, 2)) (x_L 41 (1, x_nof, 0, 0)))))))
set_option maxRecDepth 20000 in
set_option maxHeartbeats 4000000 in
theorem tb_20_0_ok (K : xKx) (hK : x_KP K) : ∀ pc, x_EOq cls K xJ mq_20 pc (tb_20_0 pc) :=
  (x_Tok2
  (x_Tok2
  (x_Tok2
  (x_Tok2
  (x_Lok (x_st (I := xJ) (xr_aload_n (i := 0) (x_dk dl_20_0_ok 0 rfl))))
  (x_Lok (x_st (I := xJ) (xr_getf (ci := 7) (k := 0) (ix := 9) (N := 8) (C := RX7) (T := TX7) rfl in_X7 (by decide) (in_t1 (List.mem_of_getElem? (i := 136) rfl) rfl) (x_dk dl_20_0_ok 1 rfl)))))
  (x_Tok2
  (x_Lok (x_st (I := xJ) (xr_iconst (n := 0) (z := 0) (v := 0) (x_dk dl_20_0_ok 2 rfl) (by decide) (by decide))))
  (x_Tok2
  (x_Lok (x_ca (I := xJ) (q' := mq_40) rfl (xr_callS (q' := mq_40) (ix := 37) (n := 2) (in_t4 (List.mem_of_getElem? (i := 9) rfl) rfl) good_w (in_t1 (List.mem_of_getElem? (i := 13) rfl) rfl) (in_t4 (List.mem_of_getElem? (i := 44) rfl) rfl) (in_t4 (List.mem_of_getElem? (i := 8) rfl) rfl) (by decide +kernel) (by decide +kernel) (x_dk dl_20_0_ok 3 rfl))))
  (x_Lok (x_st (I := xJ) (xr_iconst (n := 0) (z := 0) (v := 0) (x_dk dl_20_0_ok 4 rfl) (by decide) (by decide)))))))
  (x_Tok2
  (x_Tok2
  (x_Lok (x_st (I := xJ) (xr_istore_n (i := 1) (x_dk dl_20_0_ok 5 rfl) (by decide +kernel))))
  (x_Tok2
  (x_Lok (x_st (I := xJ) (xr_iload_n (i := 1) (x_dk dl_20_0_ok 6 rfl))))
  (x_Lok (x_st (I := xJ) (xr_bipush (n := 64) (z := 64) (v := 64) (x_dk dl_20_0_ok 7 rfl) (by decide) (by decide))))))
  (x_Tok2
  (x_Lok (x_st (I := xJ) (xr_icmpge (off := 16) (tg := 29) (x_dk dl_20_0_ok 8 rfl) (by decide))))
  (x_Tok2
  (x_Lok (x_st (I := xJ) (xr_aload_n (i := 0) (x_dk dl_20_0_ok 9 rfl))))
  (x_Lok (x_st (I := xJ) (xr_getf (ci := 7) (k := 5) (ix := 27) (N := 8) (C := RX7) (T := TX7) rfl in_X7 (by decide) (in_t1 (List.mem_of_getElem? (i := 146) rfl) rfl) (x_dk dl_20_0_ok 10 rfl))))))))
  (x_Tok2
  (x_Tok2
  (x_Tok2
  (x_Lok (x_st (I := xJ) (xr_iload_n (i := 1) (x_dk dl_20_0_ok 11 rfl))))
  (x_Tok2
  (x_Lok (x_st (I := xJ) (xr_iconst (n := 0) (z := 0) (v := 0) (x_dk dl_20_0_ok 12 rfl) (by decide) (by decide))))
  (x_Lok (x_st (I := xJ) (xr_bastore (x_dk dl_20_0_ok 13 rfl))))))
  (x_Tok2
  (x_Lok (x_st (I := xJ) (xr_iinc (i := 1) (n := 1) (x_dk dl_20_0_ok 14 rfl) (by decide +kernel) (by decide))))
  (x_Tok2
  (x_Lok (x_st (I := xJ) (xr_goto (off := (-16)) (tg := 10) (x_dk dl_20_0_ok 15 rfl) (by decide))))
  (x_Lok (x_st (I := xJ) (xr_aload_n (i := 0) (x_dk dl_20_0_ok 16 rfl)))))))
  (x_Tok2
  (x_Tok2
  (x_Lok (x_ca (I := xJ) (q' := mq_22) rfl (xr_callV (q' := mq_22) (ix := 46) (n := 0) (in_t4 (List.mem_of_getElem? (i := 66) rfl) rfl) good_w (in_t1 (List.mem_of_getElem? (i := 5) rfl) rfl) (in_t4 (List.mem_of_getElem? (i := 63) rfl) rfl) (in_t4 (List.mem_of_getElem? (i := 65) rfl) rfl) (in_s1 (List.mem_of_getElem? (i := 3) rfl)) (by decide +kernel) (by decide +kernel) (by decide +kernel) (x_dk dl_20_0_ok 17 rfl))))
  (x_Tok2
  (x_Lok (x_st (I := xJ) (xr_aload_n (i := 0) (x_dk dl_20_0_ok 18 rfl))))
  (x_Lok (x_st (I := xJ) (xr_getf (ci := 7) (k := 2) (ix := 18) (N := 8) (C := RX7) (T := TX7) rfl in_X7 (by decide) (in_t1 (List.mem_of_getElem? (i := 141) rfl) rfl) (x_dk dl_20_0_ok 19 rfl))))))
  (x_Tok2
  (x_Lok (x_st (I := xJ) (xr_iconst (n := 0) (z := 0) (v := 0) (x_dk dl_20_0_ok 20 rfl) (by decide) (by decide))))
  (x_Tok2
  (x_Lok (x_ca (I := xJ) (q' := mq_40) rfl (xr_callS (q' := mq_40) (ix := 37) (n := 2) (in_t4 (List.mem_of_getElem? (i := 9) rfl) rfl) good_w (in_t1 (List.mem_of_getElem? (i := 13) rfl) rfl) (in_t4 (List.mem_of_getElem? (i := 44) rfl) rfl) (in_t4 (List.mem_of_getElem? (i := 8) rfl) rfl) (by decide +kernel) (by decide +kernel) (x_dk dl_20_0_ok 21 rfl))))
  (x_Lok (x_rt (I := xJ) (k := 0) ⟨(x_dk dl_20_0_ok 22 rfl), rfl⟩)))))))
def tb_20 : Nat → xE := tb_20_0
theorem tb_20_ok (K : xKx) (hK : x_KP K) : ∀ pc, x_EOq cls K xJ mq_20 pc (tb_20 pc) := tb_20_0_ok K hK
def dl_21_0 : List (Nat × Instr × Nat) := [(0, .iconst 0, 1), (1, .istore_n 1, 1), (2, .iconst 0, 1), (3, .istore_n 2, 1), (4, .iload_n 2, 1), (5, .bipush 64, 2), (7, .if_icmp .ge 28, 3), (10, .aload_n 0, 1), (11, .getfield 24, 3), (14, .iload_n 2, 1), (15, .iaload, 1), (16, .ifCond .ge 13, 3), (19, .aload_n 0, 1), (20, .getfield 34, 3), (23, .iload_n 1, 1), (24, .iload_n 2, 1), (25, .iastore, 1), (26, .iinc 1 1, 3), (29, .iinc 2 1, 3), (32, .goto (-28), 3), (35, .iconst 0, 1), (36, .istore_n 2, 1), (37, .iload_n 2, 1), (38, .iload_n 1, 1), (39, .if_icmp .ge 60, 3), (42, .iload_n 1, 1), (43, .bipush 64, 2), (45, .if_icmp .ge 54, 3), (99, .return_, 1)]
set_option maxRecDepth 20000 in
theorem dl_21_0_ok : dl_21_0.all (fun q => decide (decode prog_9_method_8_code q.1 = .ok (q.2.1, q.2.2))) = true := xa_g_ok (by decide +kernel)
def tb_21_0 : Nat → xE := (x_T 20 (x_T 7 (x_T 2 (x_T 0 (x_L 0 (0, xi_push (0, 0, 0) 1, 0, 0)) (x_T 1 (x_L 1 (0, xi_stor 1 0 2, 0, 0)) (x_L 2 (0, xi_push (0, 0, 0) 3, 0, 0)))) (x_T 4 (x_T 3 (x_L 3 (0, xi_stor 2 0 4, 0, 0)) (x_L 4 (0, xi_load 2 0 5, 0, 0))) (x_T 5 (x_L 5 (0, xi_push (0, 64, 64) 7, 0, 0)) (x_L 7 (0, xi_if2 3 35 10, 0, 0))))) (x_T 14 (x_T 10 (x_L 10 (0, xi_load 0 2 11, 0, 0)) (x_T 11 (x_L 11 (0, xi_getf 7 4 14, 0, 0)) (x_L 14 (0, xi_load 2 0 15, 0, 0)))) (x_T 16 (x_T 15 (x_L 15 (0, xi_ald false 16, 0, 0)) (x_L 16 (0, xi_if1 3 29 19, 0, 0))) (x_T 19 (x_L 19 (0, xi_load 0 2 20, 0, 0)) (x_L 20 (0, xi_getf 7 7 23, 0, 0)))))) (x_T 35 (x_T 25 (x_T 23 (x_L 23 (0, xi_load 1 0 24, 0, 0)) (x_T 24 (x_L 24 (0, xi_load 2 0 25, 0, 0)) (x_L 25 (0, xi_ast false 26, 0, 0)))) (x_T 29 (x_T 26 (x_L 26 (0, xi_inc 1 1 29, 0, 0)) (x_L 29 (0, xi_inc 2 1 32, 0, 0))) (x_T 32 (x_L 32 (0, xi_goto 4, 0, 0)) (x_L 35 (0, xi_push (0, 0, 0) 36, 0, 0))))) (x_T 39 (x_T 37 (x_T 36 (x_L 36 (0, xi_stor 2 0 37, 0, 0)) (x_L 37 (0, xi_load 2 0 38, 0, 0))) (x_T 38 (x_L 38 (0, xi_load 1 0 39, 0, 0)) (x_L 39 (0, xi_if2 3 99 42, 0, 0)))) (x_T 43 (x_T 42 (x_L 42 (0, xi_load 1 0 43, 0, 0)) (x_L 43 (0, xi_push (0, 64, 64) 45, 0, 0))) (x_T 45 (x_L 45 (0, xi_if2 3 99 48, 0, 0)) (x_L 99 (1, x_nof, 0, 0)))))))
set_option maxRecDepth 20000 in
set_option maxHeartbeats 4000000 in
theorem tb_21_0_ok (K : xKx) (hK : x_KP K) : ∀ pc, x_EOq cls K xJ mq_21 pc (tb_21_0 pc) :=
  (x_Tok2
  (x_Tok2
  (x_Tok2
  (x_Tok2
  (x_Lok (x_st (I := xJ) (xr_iconst (n := 0) (z := 0) (v := 0) (x_dk dl_21_0_ok 0 rfl) (by decide) (by decide))))
  (x_Tok2
  (x_Lok (x_st (I := xJ) (xr_istore_n (i := 1) (x_dk dl_21_0_ok 1 rfl) (by decide +kernel))))
  (x_Lok (x_st (I := xJ) (xr_iconst (n := 0) (z := 0) (v := 0) (x_dk dl_21_0_ok 2 rfl) (by decide) (by decide))))))
  (x_Tok2
  (x_Tok2
  (x_Lok (x_st (I := xJ) (xr_istore_n (i := 2) (x_dk dl_21_0_ok 3 rfl) (by decide +kernel))))
  (x_Lok (x_st (I := xJ) (xr_iload_n (i := 2) (x_dk dl_21_0_ok 4 rfl)))))
  (x_Tok2
  (x_Lok (x_st (I := xJ) (xr_bipush (n := 64) (z := 64) (v := 64) (x_dk dl_21_0_ok 5 rfl) (by decide) (by decide))))
  (x_Lok (x_st (I := xJ) (xr_icmpge (off := 28) (tg := 35) (x_dk dl_21_0_ok 6 rfl) (by decide)))))))
  (x_Tok2
  (x_Tok2
  (x_Lok (x_st (I := xJ) (xr_aload_n (i := 0) (x_dk dl_21_0_ok 7 rfl))))
  (x_Tok2
  (x_Lok (x_st (I := xJ) (xr_getf (ci := 7) (k := 4) (ix := 24) (N := 8) (C := RX7) (T := TX7) rfl in_X7 (by decide) (in_t1 (List.mem_of_getElem? (i := 145) rfl) rfl) (x_dk dl_21_0_ok 8 rfl))))
  (x_Lok (x_st (I := xJ) (xr_iload_n (i := 2) (x_dk dl_21_0_ok 9 rfl))))))
  (x_Tok2
  (x_Tok2
  (x_Lok (x_st (I := xJ) (xr_iaload (x_dk dl_21_0_ok 10 rfl))))
  (x_Lok (x_st (I := xJ) (xr_ifge (off := 13) (tg := 29) (x_dk dl_21_0_ok 11 rfl) (by decide)))))
  (x_Tok2
  (x_Lok (x_st (I := xJ) (xr_aload_n (i := 0) (x_dk dl_21_0_ok 12 rfl))))
  (x_Lok (x_st (I := xJ) (xr_getf (ci := 7) (k := 7) (ix := 34) (N := 8) (C := RX7) (T := TX7) rfl in_X7 (by decide) (in_t1 (List.mem_of_getElem? (i := 148) rfl) rfl) (x_dk dl_21_0_ok 13 rfl))))))))
  (x_Tok2
  (x_Tok2
  (x_Tok2
  (x_Lok (x_st (I := xJ) (xr_iload_n (i := 1) (x_dk dl_21_0_ok 14 rfl))))
  (x_Tok2
  (x_Lok (x_st (I := xJ) (xr_iload_n (i := 2) (x_dk dl_21_0_ok 15 rfl))))
  (x_Lok (x_st (I := xJ) (xr_iastore (x_dk dl_21_0_ok 16 rfl))))))
  (x_Tok2
  (x_Tok2
  (x_Lok (x_st (I := xJ) (xr_iinc (i := 1) (n := 1) (x_dk dl_21_0_ok 17 rfl) (by decide +kernel) (by decide))))
  (x_Lok (x_st (I := xJ) (xr_iinc (i := 2) (n := 1) (x_dk dl_21_0_ok 18 rfl) (by decide +kernel) (by decide)))))
  (x_Tok2
  (x_Lok (x_st (I := xJ) (xr_goto (off := (-28)) (tg := 4) (x_dk dl_21_0_ok 19 rfl) (by decide))))
  (x_Lok (x_st (I := xJ) (xr_iconst (n := 0) (z := 0) (v := 0) (x_dk dl_21_0_ok 20 rfl) (by decide) (by decide)))))))
  (x_Tok2
  (x_Tok2
  (x_Tok2
  (x_Lok (x_st (I := xJ) (xr_istore_n (i := 2) (x_dk dl_21_0_ok 21 rfl) (by decide +kernel))))
  (x_Lok (x_st (I := xJ) (xr_iload_n (i := 2) (x_dk dl_21_0_ok 22 rfl)))))
  (x_Tok2
  (x_Lok (x_st (I := xJ) (xr_iload_n (i := 1) (x_dk dl_21_0_ok 23 rfl))))
  (x_Lok (x_st (I := xJ) (xr_icmpge (off := 60) (tg := 99) (x_dk dl_21_0_ok 24 rfl) (by decide))))))
  (x_Tok2
  (x_Tok2
  (x_Lok (x_st (I := xJ) (xr_iload_n (i := 1) (x_dk dl_21_0_ok 25 rfl))))
  (x_Lok (x_st (I := xJ) (xr_bipush (n := 64) (z := 64) (v := 64) (x_dk dl_21_0_ok 26 rfl) (by decide) (by decide)))))
  (x_Tok2
  (x_Lok (x_st (I := xJ) (xr_icmpge (off := 54) (tg := 99) (x_dk dl_21_0_ok 27 rfl) (by decide))))
  (x_Lok (x_rt (I := xJ) (k := 0) ⟨(x_dk dl_21_0_ok 28 rfl), rfl⟩)))))))
def tb_21 : Nat → xE := tb_21_0
theorem tb_21_ok (K : xKx) (hK : x_KP K) : ∀ pc, x_EOq cls K xJ mq_21 pc (tb_21 pc) := tb_21_0_ok K hK
def dl_22_0 : List (Nat × Instr × Nat) := [(0, .iconst 0, 1), (1, .istore_n 1, 1), (2, .iload_n 1, 1), (3, .bipush 64, 2), (5, .if_icmp .ge 52, 3), (8, .aload_n 0, 1), (9, .getfield 34, 3), (12, .iload_n 1, 1), (13, .iaload, 1), (14, .istore_n 2, 1), (15, .aload_n 0, 1), (16, .iload_n 2, 1), (17, .invokevirtual 52, 3), (20, .istore_n 3, 1), (21, .aload_n 0, 1), (22, .getfield 15, 3), (25, .iload_n 2, 1), (26, .iaload, 1), (27, .ifCond .ne 17, 3), (30, .iload_n 3, 1), (31, .ifCond .eq 13, 3), (44, .aload_n 0, 1), (45, .getfield 15, 3), (48, .iload_n 2, 1), (49, .iload_n 3, 1), (50, .iastore, 1), (51, .iinc 1 1, 3), (54, .goto (-52), 3), (57, .return_, 1)]
set_option maxRecDepth 20000 in
theorem dl_22_0_ok : dl_22_0.all (fun q => decide (decode prog_9_method_9_code q.1 = .ok (q.2.1, q.2.2))) = true := xa_g_ok (by decide +kernel)
def tb_22_0 : Nat → xE := (x_T 20 (x_T 9 (x_T 2 (x_T 0 (x_L 0 (0, xi_push (0, 0, 0) 1, 0, 0)) (x_T 1 (x_L 1 (0, xi_stor 1 0 2, 0, 0)) (x_L 2 (3, xi_load 1 0 3, 4, 0)))) (x_T 5 (x_T 3 (x_L 3 (0, xi_push (0, 64, 64) 5, 0, 0)) (x_L 5 (0, xi_if2 3 57 8, 0, 0))) (x_T 8 (x_L 8 (0, xi_load 0 2 9, 0, 0)) (x_L 9 (0, xi_getf 7 7 12, 0, 0))))) (x_T 14 (x_T 12 (x_L 12 (0, xi_load 1 0 13, 0, 0)) (x_T 13 (x_L 13 (0, xi_aldH false 14, 0, 0)) (x_L 14 (0, xi_stor 2 0 15, 0, 0)))) (x_T 16 (x_T 15 (x_L 15 (0, xi_load 0 2 16, 0, 0)) (x_L 16 (0, xi_load 2 0 17, 0, 0))) (x_T 17 (x_L 17 (2, x_nof, 23, 2)) (x_L 20 (0, xi_stor 3 0 21, 0, 0)))))) (x_T 31 (x_T 25 (x_T 21 (x_L 21 (0, xi_load 0 2 22, 0, 0)) (x_T 22 (x_L 22 (0, xi_getf 7 1 25, 0, 0)) (x_L 25 (0, xi_load 2 0 26, 0, 0)))) (x_T 27 (x_T 26 (x_L 26 (0, xi_ald false 27, 0, 0)) (x_L 27 (0, xi_if1 1 44 30, 0, 0))) (x_T 30 (x_L 30 (0, xi_load 3 0 31, 0, 0)) (x_L 31 (0, xi_if1 0 44 34, 0, 0))))) (x_T 49 (x_T 45 (x_T 44 (x_L 44 (0, xi_load 0 2 45, 0, 0)) (x_L 45 (0, xi_getf 7 1 48, 0, 0))) (x_T 48 (x_L 48 (0, xi_load 2 0 49, 0, 0)) (x_L 49 (0, xi_load 3 0 50, 0, 0)))) (x_T 51 (x_T 50 (x_L 50 (0, xi_ast false 51, 0, 0)) (x_L 51 (0, xi_incT 1 54, 0, 0))) (x_T 54 (x_L 54 (0, xi_goto 2, 0, 0)) (x_L 57 (1, x_nof, 0, 0)))))))
set_option maxRecDepth 20000 in
set_option maxHeartbeats 4000000 in
theorem tb_22_0_ok (K : xKx) (hK : x_KP K) : ∀ pc, x_EOq cls K xJ mq_22 pc (tb_22_0 pc) :=
  (x_Tok2
  (x_Tok2
  (x_Tok2
  (x_Tok2
  (x_Lok (x_st (I := xJ) (xr_iconst (n := 0) (z := 0) (v := 0) (x_dk dl_22_0_ok 0 rfl) (by decide) (by decide))))
  (x_Tok2
  (x_Lok (x_st (I := xJ) (xr_istore_n (i := 1) (x_dk dl_22_0_ok 1 rfl) (by decide +kernel))))
  (x_Lok (x_lo (I := xJ) (L := 4) (xr_iload_n (i := 1) (x_dk dl_22_0_ok 2 rfl))))))
  (x_Tok2
  (x_Tok2
  (x_Lok (x_st (I := xJ) (xr_bipush (n := 64) (z := 64) (v := 64) (x_dk dl_22_0_ok 3 rfl) (by decide) (by decide))))
  (x_Lok (x_st (I := xJ) (xr_icmpge (off := 52) (tg := 57) (x_dk dl_22_0_ok 4 rfl) (by decide)))))
  (x_Tok2
  (x_Lok (x_st (I := xJ) (xr_aload_n (i := 0) (x_dk dl_22_0_ok 5 rfl))))
  (x_Lok (x_st (I := xJ) (xr_getf (ci := 7) (k := 7) (ix := 34) (N := 8) (C := RX7) (T := TX7) rfl in_X7 (by decide) (in_t1 (List.mem_of_getElem? (i := 148) rfl) rfl) (x_dk dl_22_0_ok 6 rfl)))))))
  (x_Tok2
  (x_Tok2
  (x_Lok (x_st (I := xJ) (xr_iload_n (i := 1) (x_dk dl_22_0_ok 7 rfl))))
  (x_Tok2
  (x_Lok (x_st (I := xJ) (xr_ialdH (x_dk dl_22_0_ok 8 rfl))))
  (x_Lok (x_st (I := xJ) (xr_istore_n (i := 2) (x_dk dl_22_0_ok 9 rfl) (by decide +kernel))))))
  (x_Tok2
  (x_Tok2
  (x_Lok (x_st (I := xJ) (xr_aload_n (i := 0) (x_dk dl_22_0_ok 10 rfl))))
  (x_Lok (x_st (I := xJ) (xr_iload_n (i := 2) (x_dk dl_22_0_ok 11 rfl)))))
  (x_Tok2
  (x_Lok (x_ca (I := xJ) (q' := mq_23) rfl (xr_callV (q' := mq_23) (ix := 52) (n := 1) (in_t4 (List.mem_of_getElem? (i := 70) rfl) rfl) good_w (in_t1 (List.mem_of_getElem? (i := 5) rfl) rfl) (in_t4 (List.mem_of_getElem? (i := 67) rfl) rfl) (in_t4 (List.mem_of_getElem? (i := 69) rfl) rfl) (in_s1 (List.mem_of_getElem? (i := 4) rfl)) (by decide +kernel) (by decide +kernel) (by decide +kernel) (x_dk dl_22_0_ok 12 rfl))))
  (x_Lok (x_st (I := xJ) (xr_istore_n (i := 3) (x_dk dl_22_0_ok 13 rfl) (by decide +kernel))))))))
  (x_Tok2
  (x_Tok2
  (x_Tok2
  (x_Lok (x_st (I := xJ) (xr_aload_n (i := 0) (x_dk dl_22_0_ok 14 rfl))))
  (x_Tok2
  (x_Lok (x_st (I := xJ) (xr_getf (ci := 7) (k := 1) (ix := 15) (N := 8) (C := RX7) (T := TX7) rfl in_X7 (by decide) (in_t1 (List.mem_of_getElem? (i := 138) rfl) rfl) (x_dk dl_22_0_ok 15 rfl))))
  (x_Lok (x_st (I := xJ) (xr_iload_n (i := 2) (x_dk dl_22_0_ok 16 rfl))))))
  (x_Tok2
  (x_Tok2
  (x_Lok (x_st (I := xJ) (xr_iaload (x_dk dl_22_0_ok 17 rfl))))
  (x_Lok (x_st (I := xJ) (xr_ifne (off := 17) (tg := 44) (x_dk dl_22_0_ok 18 rfl) (by decide)))))
  (x_Tok2
  (x_Lok (x_st (I := xJ) (xr_iload_n (i := 3) (x_dk dl_22_0_ok 19 rfl))))
  (x_Lok (x_st (I := xJ) (xr_ifeq (off := 13) (tg := 44) (x_dk dl_22_0_ok 20 rfl) (by decide)))))))
  (x_Tok2
  (x_Tok2
  (x_Tok2
  (x_Lok (x_st (I := xJ) (xr_aload_n (i := 0) (x_dk dl_22_0_ok 21 rfl))))
  (x_Lok (x_st (I := xJ) (xr_getf (ci := 7) (k := 1) (ix := 15) (N := 8) (C := RX7) (T := TX7) rfl in_X7 (by decide) (in_t1 (List.mem_of_getElem? (i := 138) rfl) rfl) (x_dk dl_22_0_ok 22 rfl)))))
  (x_Tok2
  (x_Lok (x_st (I := xJ) (xr_iload_n (i := 2) (x_dk dl_22_0_ok 23 rfl))))
  (x_Lok (x_st (I := xJ) (xr_iload_n (i := 3) (x_dk dl_22_0_ok 24 rfl))))))
  (x_Tok2
  (x_Tok2
  (x_Lok (x_st (I := xJ) (xr_iastore (x_dk dl_22_0_ok 25 rfl))))
  (x_Lok (x_st (I := xJ) (xr_iincT (i := 1) (x_hev hK) (x_dk dl_22_0_ok 26 rfl) (by decide +kernel)))))
  (x_Tok2
  (x_Lok (x_st (I := xJ) (xr_goto (off := (-52)) (tg := 2) (x_dk dl_22_0_ok 27 rfl) (by decide))))
  (x_Lok (x_rt (I := xJ) (k := 0) ⟨(x_dk dl_22_0_ok 28 rfl), rfl⟩)))))))
def tb_22 : Nat → xE := tb_22_0
theorem tb_22_ok (K : xKx) (hK : x_KP K) : ∀ pc, x_EOq cls K xJ mq_22 pc (tb_22 pc) := tb_22_0_ok K hK
def dl_23_0 : List (Nat × Instr × Nat) := [(0, .aload_n 0, 1), (1, .getfield 27, 3), (4, .iload_n 1, 1), (5, .baload, 1), (6, .ifCond .eq 10, 3), (16, .aload_n 0, 1), (17, .getfield 24, 3), (20, .iload_n 1, 1), (21, .iaload, 1), (22, .ifCond .ge 10, 3), (25, .aload_n 0, 1), (26, .getfield 9, 3), (29, .iload_n 1, 1), (30, .iaload, 1), (31, .ireturn, 1)]
set_option maxRecDepth 20000 in
theorem dl_23_0_ok : dl_23_0.all (fun q => decide (decode prog_9_method_10_code q.1 = .ok (q.2.1, q.2.2))) = true := xa_g_ok (by decide +kernel)
def tb_23_0 : Nat → xE := (x_T 17 (x_T 4 (x_T 0 (x_L 0 (0, xi_load 0 2 1, 0, 0)) (x_T 1 (x_L 1 (0, xi_getf 7 5 4, 0, 0)) (x_L 4 (0, xi_load 1 0 5, 0, 0)))) (x_T 6 (x_T 5 (x_L 5 (0, xi_ald true 6, 0, 0)) (x_L 6 (0, xi_if1 0 16 9, 0, 0))) (x_T 16 (x_L 16 (0, xi_load 0 2 17, 0, 0)) (x_L 17 (0, xi_getf 7 4 20, 0, 0))))) (x_T 25 (x_T 21 (x_T 20 (x_L 20 (0, xi_load 1 0 21, 0, 0)) (x_L 21 (0, xi_ald false 22, 0, 0))) (x_T 22 (x_L 22 (0, xi_if1 3 32 25, 0, 0)) (x_L 25 (0, xi_load 0 2 26, 0, 0)))) (x_T 29 (x_T 26 (x_L 26 (0, xi_getf 7 0 29, 0, 0)) (x_L 29 (0, xi_load 1 0 30, 0, 0))) (x_T 30 (x_L 30 (0, xi_ald false 31, 0, 0)) (x_L 31 (1, x_nof, 1, 0))))))
set_option maxRecDepth 20000 in
set_option maxHeartbeats 4000000 in
theorem tb_23_0_ok (K : xKx) (hK : x_KP K) : ∀ pc, x_EOq cls K xJ mq_23 pc (tb_23_0 pc) :=
  (x_Tok2
  (x_Tok2
  (x_Tok2
  (x_Lok (x_st (I := xJ) (xr_aload_n (i := 0) (x_dk dl_23_0_ok 0 rfl))))
  (x_Tok2
  (x_Lok (x_st (I := xJ) (xr_getf (ci := 7) (k := 5) (ix := 27) (N := 8) (C := RX7) (T := TX7) rfl in_X7 (by decide) (in_t1 (List.mem_of_getElem? (i := 146) rfl) rfl) (x_dk dl_23_0_ok 1 rfl))))
  (x_Lok (x_st (I := xJ) (xr_iload_n (i := 1) (x_dk dl_23_0_ok 2 rfl))))))
  (x_Tok2
  (x_Tok2
  (x_Lok (x_st (I := xJ) (xr_baload (x_dk dl_23_0_ok 3 rfl))))
  (x_Lok (x_st (I := xJ) (xr_ifeq (off := 10) (tg := 16) (x_dk dl_23_0_ok 4 rfl) (by decide)))))
  (x_Tok2
  (x_Lok (x_st (I := xJ) (xr_aload_n (i := 0) (x_dk dl_23_0_ok 5 rfl))))
  (x_Lok (x_st (I := xJ) (xr_getf (ci := 7) (k := 4) (ix := 24) (N := 8) (C := RX7) (T := TX7) rfl in_X7 (by decide) (in_t1 (List.mem_of_getElem? (i := 145) rfl) rfl) (x_dk dl_23_0_ok 6 rfl)))))))
  (x_Tok2
  (x_Tok2
  (x_Tok2
  (x_Lok (x_st (I := xJ) (xr_iload_n (i := 1) (x_dk dl_23_0_ok 7 rfl))))
  (x_Lok (x_st (I := xJ) (xr_iaload (x_dk dl_23_0_ok 8 rfl)))))
  (x_Tok2
  (x_Lok (x_st (I := xJ) (xr_ifge (off := 10) (tg := 32) (x_dk dl_23_0_ok 9 rfl) (by decide))))
  (x_Lok (x_st (I := xJ) (xr_aload_n (i := 0) (x_dk dl_23_0_ok 10 rfl))))))
  (x_Tok2
  (x_Tok2
  (x_Lok (x_st (I := xJ) (xr_getf (ci := 7) (k := 0) (ix := 9) (N := 8) (C := RX7) (T := TX7) rfl in_X7 (by decide) (in_t1 (List.mem_of_getElem? (i := 136) rfl) rfl) (x_dk dl_23_0_ok 11 rfl))))
  (x_Lok (x_st (I := xJ) (xr_iload_n (i := 1) (x_dk dl_23_0_ok 12 rfl)))))
  (x_Tok2
  (x_Lok (x_st (I := xJ) (xr_iaload (x_dk dl_23_0_ok 13 rfl))))
  (x_Lok (x_rt (I := xJ) (k := 1) ⟨(x_dk dl_23_0_ok 14 rfl), rfl⟩))))))
def tb_23 : Nat → xE := tb_23_0
theorem tb_23_ok (K : xKx) (hK : x_KP K) : ∀ pc, x_EOq cls K xJ mq_23 pc (tb_23 pc) := tb_23_0_ok K hK
def dl_24_0 : List (Nat × Instr × Nat) := [(0, .aload_n 0, 1), (1, .invokespecial 3, 3), (4, .aload_n 0, 1), (5, .iconst (-1), 1), (6, .putfield 9, 3), (9, .aload_n 0, 1), (10, .iconst (-1), 1), (11, .putfield 15, 3), (14, .aload_n 0, 1), (15, .new 18, 3), (18, .dup, 1), (19, .invokespecial 20, 3), (22, .putfield 21, 3), (25, .aload_n 0, 1), (26, .sipush 4000, 3), (29, .newarray .byte, 2), (31, .putfield 25, 3), (34, .aload_n 0, 1), (35, .bipush 32, 2), (37, .newarray .int, 2), (39, .putfield 29, 3), (42, .aload_n 0, 1), (43, .sipush 500, 3), (46, .newarray .int, 2), (48, .putfield 33, 3), (51, .return_, 1)]
set_option maxRecDepth 20000 in
theorem dl_24_0_ok : dl_24_0.all (fun q => decide (decode prog_10_method_1_code q.1 = .ok (q.2.1, q.2.2))) = true := xa_g_ok (by decide +kernel)
def tb_24_0 : Nat → xE := (x_T 22 (x_T 9 (x_T 4 (x_T 0 (x_L 0 (0, xi_load 0 2 1, 0, 0)) (x_T 1 (x_L 1 (0, xi_oi 4, 0, 0)) (x_L 4 (0, xi_load 0 2 5, 0, 0)))) (x_T 5 (x_L 5 (0, xi_push (0, (-1), (-1)) 6, 0, 0)) (x_T 6 (x_L 6 (0, xi_putf 8 1 0 9, 0, 0)) (x_L 9 (0, xi_load 0 2 10, 0, 0))))) (x_T 14 (x_T 10 (x_L 10 (0, xi_push (0, (-1), (-1)) 11, 0, 0)) (x_T 11 (x_L 11 (0, xi_putf 8 2 0 14, 0, 0)) (x_L 14 (0, xi_load 0 2 15, 0, 0)))) (x_T 18 (x_T 15 (x_L 15 (0, xi_new (x_nc 1 ks_X1) (xm_c mq_24) (xm_s mq_24) 18, 0, 0)) (x_L 18 (0, xi_stk xf_dup 19, 0, 0))) (x_T 19 (x_L 19 (2, x_nof, 7, 1)) (x_L 22 (0, xi_putf 8 3 2 25, 0, 0)))))) (x_T 35 (x_T 29 (x_T 25 (x_L 25 (0, xi_load 0 2 26, 0, 0)) (x_T 26 (x_L 26 (0, xi_push (0, 4000, 4000) 29, 0, 0)) (x_L 29 (0, xi_newa 2 0 (0, 0, 0) (xm_c mq_24) (xm_s mq_24) 31, 0, 0)))) (x_T 31 (x_L 31 (0, xi_putf 8 4 2 34, 0, 0)) (x_T 34 (x_L 34 (0, xi_load 0 2 35, 0, 0)) (x_L 35 (0, xi_push (0, 32, 32) 37, 0, 0))))) (x_T 42 (x_T 37 (x_L 37 (0, xi_newa 1 0 (0, 0, 0) (xm_c mq_24) (xm_s mq_24) 39, 0, 0)) (x_T 39 (x_L 39 (0, xi_putf 8 15 2 42, 0, 0)) (x_L 42 (0, xi_load 0 2 43, 0, 0)))) (x_T 46 (x_T 43 (x_L 43 (0, xi_push (0, 500, 500) 46, 0, 0)) (x_L 46 (0, xi_newa 1 0 (0, 0, 0) (xm_c mq_24) (xm_s mq_24) 48, 0, 0))) (x_T 48 (x_L 48 (0, xi_putf 8 16 2 51, 0, 0)) (x_L 51 (1, x_nof, 0, 0)))))))
set_option maxRecDepth 20000 in
set_option maxHeartbeats 4000000 in
theorem tb_24_0_ok (K : xKx) (hK : x_KP K) : ∀ pc, x_EOq cls K xJ mq_24 pc (tb_24_0 pc) :=
  (x_Tok2
  (x_Tok2
  (x_Tok2
  (x_Tok2
  (x_Lok (x_st (I := xJ) (xr_aload_n (i := 0) (x_dk dl_24_0_ok 0 rfl))))
  (x_Tok2
  (x_Lok (x_st (I := xJ) (xr_oi (ix := 3) (in_t1 (List.mem_of_getElem? (i := 34) rfl) rfl) (in_t1 (List.mem_of_getElem? (i := 27) rfl) rfl) (in_t1 (List.mem_of_getElem? (i := 28) rfl) rfl) (x_dk dl_24_0_ok 1 rfl))))
  (x_Lok (x_st (I := xJ) (xr_aload_n (i := 0) (x_dk dl_24_0_ok 2 rfl))))))
  (x_Tok2
  (x_Lok (x_st (I := xJ) (xr_iconst (n := (-1)) (z := (-1)) (v := (-1)) (x_dk dl_24_0_ok 3 rfl) (by decide) (by decide))))
  (x_Tok2
  (x_Lok (x_st (I := xJ) (xr_putf (ci := 8) (k := 1) (ix := 9) (N := 17) (fk := 0) (C := RX8) (T := TX8) (ty0 := tyX8) (ty := .int) rfl in_X8 tyX8_ok nmX8 (by decide) (in_t1 (List.mem_of_getElem? (i := 67) rfl) rfl) rfl rfl x_fit_int (x_dk dl_24_0_ok 4 rfl))))
  (x_Lok (x_st (I := xJ) (xr_aload_n (i := 0) (x_dk dl_24_0_ok 5 rfl)))))))
  (x_Tok2
  (x_Tok2
  (x_Lok (x_st (I := xJ) (xr_iconst (n := (-1)) (z := (-1)) (v := (-1)) (x_dk dl_24_0_ok 6 rfl) (by decide) (by decide))))
  (x_Tok2
  (x_Lok (x_st (I := xJ) (xr_putf (ci := 8) (k := 2) (ix := 15) (N := 17) (fk := 0) (C := RX8) (T := TX8) (ty0 := tyX8) (ty := .int) rfl in_X8 tyX8_ok nmX8 (by decide) (in_t1 (List.mem_of_getElem? (i := 69) rfl) rfl) rfl rfl x_fit_int (x_dk dl_24_0_ok 7 rfl))))
  (x_Lok (x_st (I := xJ) (xr_aload_n (i := 0) (x_dk dl_24_0_ok 8 rfl))))))
  (x_Tok2
  (x_Tok2
  (x_Lok (x_st (I := xJ) (xr_new (ci := 1) (ix := 18) (N := 5) (C := RX1) (T := TX1) (ty0 := tyX1) (ks := ks_X1) rfl in_X1 tyX1_ok (in_t1 (List.mem_of_getElem? (i := 35) rfl) rfl) (in_t1 (List.mem_of_getElem? (i := 36) rfl) rfl) (in_t1 (List.mem_of_getElem? (i := 3) rfl) rfl) rfl df_X1 (x_dk dl_24_0_ok 9 rfl))))
  (x_Lok (x_st (I := xJ) (xr_dup (x_dk dl_24_0_ok 10 rfl)))))
  (x_Tok2
  (x_Lok (x_ca (I := xJ) (q' := mq_7) rfl (xr_callIN (q' := mq_7) (ix := 20) (n := 0) (host := "RobotCellHouse") (in_t1 (List.mem_of_getElem? (i := 39) rfl) rfl) good_w (in_t1 (List.mem_of_getElem? (i := 3) rfl) rfl) (List.mem_of_getElem? (i := 1) rfl) (in_t1 (List.mem_of_getElem? (i := 38) rfl) rfl) rfl rfl (by decide +kernel) (by decide +kernel) (by decide +kernel) (x_dk dl_24_0_ok 11 rfl))))
  (x_Lok (x_st (I := xJ) (xr_putf (ci := 8) (k := 3) (ix := 21) (N := 17) (fk := 2) (C := RX8) (T := TX8) (ty0 := tyX8) (ty := .object "RobotCellHouse$Code") rfl in_X8 tyX8_ok nmX8 (by decide) (in_t1 (List.mem_of_getElem? (i := 71) rfl) rfl) rfl rfl x_fit_obj (x_dk dl_24_0_ok 12 rfl))))))))
  (x_Tok2
  (x_Tok2
  (x_Tok2
  (x_Lok (x_st (I := xJ) (xr_aload_n (i := 0) (x_dk dl_24_0_ok 13 rfl))))
  (x_Tok2
  (x_Lok (x_st (I := xJ) (xr_sipush (n := 4000) (z := 4000) (v := 4000) (x_dk dl_24_0_ok 14 rfl) (by decide) (by decide))))
  (x_Lok (x_st (I := xJ) (xr_newa (kd := 2) (b := true) (ty := .byte) rfl rfl (in_t1 (List.mem_of_getElem? (i := 121) rfl) rfl) (x_dk dl_24_0_ok 15 rfl))))))
  (x_Tok2
  (x_Lok (x_st (I := xJ) (xr_putF (ci := 8) (k := 4) (ix := 25) (N := 17) (fk := 2) (C := RX8) (T := TX8) (ty0 := tyX8) (ty := .array .byte) rfl in_X8 tyX8_ok nmX8 (by decide) (in_t1 (List.mem_of_getElem? (i := 73) rfl) rfl) rfl rfl rfl rfl x_fit_arr (x_dk dl_24_0_ok 16 rfl))))
  (x_Tok2
  (x_Lok (x_st (I := xJ) (xr_aload_n (i := 0) (x_dk dl_24_0_ok 17 rfl))))
  (x_Lok (x_st (I := xJ) (xr_bipush (n := 32) (z := 32) (v := 32) (x_dk dl_24_0_ok 18 rfl) (by decide) (by decide)))))))
  (x_Tok2
  (x_Tok2
  (x_Lok (x_st (I := xJ) (xr_newa (kd := 1) (b := false) (ty := .int) rfl rfl (in_t1 (List.mem_of_getElem? (i := 64) rfl) rfl) (x_dk dl_24_0_ok 19 rfl))))
  (x_Tok2
  (x_Lok (x_st (I := xJ) (xr_putF (ci := 8) (k := 15) (ix := 29) (N := 17) (fk := 2) (C := RX8) (T := TX8) (ty0 := tyX8) (ty := .array .int) rfl in_X8 tyX8_ok nmX8 (by decide) (in_t1 (List.mem_of_getElem? (i := 84) rfl) rfl) rfl rfl rfl rfl x_fit_arr (x_dk dl_24_0_ok 20 rfl))))
  (x_Lok (x_st (I := xJ) (xr_aload_n (i := 0) (x_dk dl_24_0_ok 21 rfl))))))
  (x_Tok2
  (x_Tok2
  (x_Lok (x_st (I := xJ) (xr_sipush (n := 500) (z := 500) (v := 500) (x_dk dl_24_0_ok 22 rfl) (by decide) (by decide))))
  (x_Lok (x_st (I := xJ) (xr_newa (kd := 1) (b := false) (ty := .int) rfl rfl (in_t1 (List.mem_of_getElem? (i := 64) rfl) rfl) (x_dk dl_24_0_ok 23 rfl)))))
  (x_Tok2
  (x_Lok (x_st (I := xJ) (xr_putF (ci := 8) (k := 16) (ix := 33) (N := 17) (fk := 2) (C := RX8) (T := TX8) (ty0 := tyX8) (ty := .array .int) rfl in_X8 tyX8_ok nmX8 (by decide) (in_t1 (List.mem_of_getElem? (i := 85) rfl) rfl) rfl rfl rfl rfl x_fit_arr (x_dk dl_24_0_ok 24 rfl))))
  (x_Lok (x_rt (I := xJ) (k := 0) ⟨(x_dk dl_24_0_ok 25 rfl), rfl⟩)))))))
def tb_24 : Nat → xE := tb_24_0
theorem tb_24_ok (K : xKx) (hK : x_KP K) : ∀ pc, x_EOq cls K xJ mq_24 pc (tb_24 pc) := tb_24_0_ok K hK
def dl_25_0 : List (Nat × Instr × Nat) := [(0, .aload_n 0, 1), (1, .invokespecial 3, 3), (4, .aload_n 0, 1), (5, .bipush 16, 2), (7, .newarray .int, 2), (9, .putfield 9, 3), (12, .aload_n 0, 1), (13, .bipush 16, 2), (15, .newarray .int, 2), (17, .putfield 15, 3), (20, .aload_n 0, 1), (21, .bipush 16, 2), (23, .newarray .int, 2), (25, .putfield 18, 3), (28, .aload_n 0, 1), (29, .bipush 16, 2), (31, .newarray .int, 2), (33, .putfield 21, 3), (36, .aload_n 0, 1), (37, .bipush 16, 2), (39, .newarray .int, 2), (41, .putfield 24, 3), (44, .aload_n 0, 1), (45, .bipush 8, 2), (47, .newarray .int, 2), (49, .putfield 27, 3), (52, .aload_n 0, 1), (53, .bipush 8, 2), (55, .newarray .int, 2), (57, .putfield 30, 3), (60, .aload_n 0, 1), (61, .bipush 8, 2), (63, .newarray .int, 2), (65, .putfield 33, 3), (68, .aload_n 0, 1), (69, .bipush 8, 2), (71, .newarray .int, 2), (73, .putfield 36, 3), (76, .aload_n 0, 1), (77, .bipush 8, 2), (79, .newarray .int, 2), (81, .putfield 39, 3), (84, .aload_n 0, 1), (85, .bipush 8, 2), (87, .newarray .int, 2), (89, .putfield 42, 3), (92, .return_, 1)]
set_option maxRecDepth 20000 in
theorem dl_25_0_ok : dl_25_0.all (fun q => decide (decode prog_11_method_1_code q.1 = .ok (q.2.1, q.2.2))) = true := xa_g_ok (by decide +kernel)
def tb_25_0 : Nat → xE := (x_T 20 (x_T 7 (x_T 1 (x_T 0 (x_L 0 (0, xi_load 0 2 1, 0, 0)) (x_L 1 (0, xi_oi 4, 0, 0))) (x_T 4 (x_L 4 (0, xi_load 0 2 5, 0, 0)) (x_T 5 (x_L 5 (0, xi_push (0, 16, 16) 7, 0, 0)) (x_L 7 (0, xi_newa 1 0 (0, 0, 0) (xm_c mq_25) (xm_s mq_25) 9, 0, 0))))) (x_T 13 (x_T 9 (x_L 9 (0, xi_putf 9 2 2 12, 0, 0)) (x_T 12 (x_L 12 (0, xi_load 0 2 13, 0, 0)) (x_L 13 (0, xi_push (0, 16, 16) 15, 0, 0)))) (x_T 15 (x_L 15 (0, xi_newa 1 0 (0, 0, 0) (xm_c mq_25) (xm_s mq_25) 17, 0, 0)) (x_T 17 (x_L 17 (0, xi_putf 9 3 2 20, 0, 0)) (x_L 20 (0, xi_load 0 2 21, 0, 0)))))) (x_T 31 (x_T 25 (x_T 21 (x_L 21 (0, xi_push (0, 16, 16) 23, 0, 0)) (x_T 23 (x_L 23 (0, xi_newa 1 0 (0, 0, 0) (xm_c mq_25) (xm_s mq_25) 25, 0, 0)) (x_L 25 (0, xi_putf 9 4 2 28, 0, 0)))) (x_T 28 (x_L 28 (0, xi_load 0 2 29, 0, 0)) (x_T 29 (x_L 29 (0, xi_push (0, 16, 16) 31, 0, 0)) (x_L 31 (0, xi_newa 1 0 (0, 0, 0) (xm_c mq_25) (xm_s mq_25) 33, 0, 0))))) (x_T 37 (x_T 33 (x_L 33 (0, xi_putf 9 5 2 36, 0, 0)) (x_T 36 (x_L 36 (0, xi_load 0 2 37, 0, 0)) (x_L 37 (0, xi_push (0, 16, 16) 39, 0, 0)))) (x_T 39 (x_L 39 (0, xi_newa 1 0 (0, 0, 0) (xm_c mq_25) (xm_s mq_25) 41, 0, 0)) (x_T 41 (x_L 41 (0, xi_putf 9 6 2 44, 0, 0)) (x_L 44 (0, xi_load 0 2 45, 0, 0)))))))
set_option maxRecDepth 20000 in
set_option maxHeartbeats 4000000 in
theorem tb_25_0_ok (K : xKx) (hK : x_KP K) : ∀ pc, x_EOq cls K xJ mq_25 pc (tb_25_0 pc) :=
  (x_Tok2
  (x_Tok2
  (x_Tok2
  (x_Tok2
  (x_Lok (x_st (I := xJ) (xr_aload_n (i := 0) (x_dk dl_25_0_ok 0 rfl))))
  (x_Lok (x_st (I := xJ) (xr_oi (ix := 3) (in_t3 (List.mem_of_getElem? (i := 136) rfl) rfl) (in_t1 (List.mem_of_getElem? (i := 27) rfl) rfl) (in_t1 (List.mem_of_getElem? (i := 28) rfl) rfl) (x_dk dl_25_0_ok 1 rfl)))))
  (x_Tok2
  (x_Lok (x_st (I := xJ) (xr_aload_n (i := 0) (x_dk dl_25_0_ok 2 rfl))))
  (x_Tok2
  (x_Lok (x_st (I := xJ) (xr_bipush (n := 16) (z := 16) (v := 16) (x_dk dl_25_0_ok 3 rfl) (by decide) (by decide))))
  (x_Lok (x_st (I := xJ) (xr_newa (kd := 1) (b := false) (ty := .int) rfl rfl (in_t1 (List.mem_of_getElem? (i := 64) rfl) rfl) (x_dk dl_25_0_ok 4 rfl)))))))
  (x_Tok2
  (x_Tok2
  (x_Lok (x_st (I := xJ) (xr_putF (ci := 9) (k := 2) (ix := 9) (N := 17) (fk := 2) (C := RX9) (T := TX9) (ty0 := tyX9) (ty := .array .int) rfl in_X9 tyX9_ok nmX9 (by decide) (in_t3 (List.mem_of_getElem? (i := 141) rfl) rfl) rfl rfl rfl rfl x_fit_arr (x_dk dl_25_0_ok 5 rfl))))
  (x_Tok2
  (x_Lok (x_st (I := xJ) (xr_aload_n (i := 0) (x_dk dl_25_0_ok 6 rfl))))
  (x_Lok (x_st (I := xJ) (xr_bipush (n := 16) (z := 16) (v := 16) (x_dk dl_25_0_ok 7 rfl) (by decide) (by decide))))))
  (x_Tok2
  (x_Lok (x_st (I := xJ) (xr_newa (kd := 1) (b := false) (ty := .int) rfl rfl (in_t1 (List.mem_of_getElem? (i := 64) rfl) rfl) (x_dk dl_25_0_ok 8 rfl))))
  (x_Tok2
  (x_Lok (x_st (I := xJ) (xr_putF (ci := 9) (k := 3) (ix := 15) (N := 17) (fk := 2) (C := RX9) (T := TX9) (ty0 := tyX9) (ty := .array .int) rfl in_X9 tyX9_ok nmX9 (by decide) (in_t3 (List.mem_of_getElem? (i := 142) rfl) rfl) rfl rfl rfl rfl x_fit_arr (x_dk dl_25_0_ok 9 rfl))))
  (x_Lok (x_st (I := xJ) (xr_aload_n (i := 0) (x_dk dl_25_0_ok 10 rfl))))))))
  (x_Tok2
  (x_Tok2
  (x_Tok2
  (x_Lok (x_st (I := xJ) (xr_bipush (n := 16) (z := 16) (v := 16) (x_dk dl_25_0_ok 11 rfl) (by decide) (by decide))))
  (x_Tok2
  (x_Lok (x_st (I := xJ) (xr_newa (kd := 1) (b := false) (ty := .int) rfl rfl (in_t1 (List.mem_of_getElem? (i := 64) rfl) rfl) (x_dk dl_25_0_ok 12 rfl))))
  (x_Lok (x_st (I := xJ) (xr_putF (ci := 9) (k := 4) (ix := 18) (N := 17) (fk := 2) (C := RX9) (T := TX9) (ty0 := tyX9) (ty := .array .int) rfl in_X9 tyX9_ok nmX9 (by decide) (in_t3 (List.mem_of_getElem? (i := 143) rfl) rfl) rfl rfl rfl rfl x_fit_arr (x_dk dl_25_0_ok 13 rfl))))))
  (x_Tok2
  (x_Lok (x_st (I := xJ) (xr_aload_n (i := 0) (x_dk dl_25_0_ok 14 rfl))))
  (x_Tok2
  (x_Lok (x_st (I := xJ) (xr_bipush (n := 16) (z := 16) (v := 16) (x_dk dl_25_0_ok 15 rfl) (by decide) (by decide))))
  (x_Lok (x_st (I := xJ) (xr_newa (kd := 1) (b := false) (ty := .int) rfl rfl (in_t1 (List.mem_of_getElem? (i := 64) rfl) rfl) (x_dk dl_25_0_ok 16 rfl)))))))
  (x_Tok2
  (x_Tok2
  (x_Lok (x_st (I := xJ) (xr_putF (ci := 9) (k := 5) (ix := 21) (N := 17) (fk := 2) (C := RX9) (T := TX9) (ty0 := tyX9) (ty := .array .int) rfl in_X9 tyX9_ok nmX9 (by decide) (in_t3 (List.mem_of_getElem? (i := 144) rfl) rfl) rfl rfl rfl rfl x_fit_arr (x_dk dl_25_0_ok 17 rfl))))
  (x_Tok2
  (x_Lok (x_st (I := xJ) (xr_aload_n (i := 0) (x_dk dl_25_0_ok 18 rfl))))
  (x_Lok (x_st (I := xJ) (xr_bipush (n := 16) (z := 16) (v := 16) (x_dk dl_25_0_ok 19 rfl) (by decide) (by decide))))))
  (x_Tok2
  (x_Lok (x_st (I := xJ) (xr_newa (kd := 1) (b := false) (ty := .int) rfl rfl (in_t1 (List.mem_of_getElem? (i := 64) rfl) rfl) (x_dk dl_25_0_ok 20 rfl))))
  (x_Tok2
  (x_Lok (x_st (I := xJ) (xr_putF (ci := 9) (k := 6) (ix := 24) (N := 17) (fk := 2) (C := RX9) (T := TX9) (ty0 := tyX9) (ty := .array .int) rfl in_X9 tyX9_ok nmX9 (by decide) (in_t3 (List.mem_of_getElem? (i := 145) rfl) rfl) rfl rfl rfl rfl x_fit_arr (x_dk dl_25_0_ok 21 rfl))))
  (x_Lok (x_st (I := xJ) (xr_aload_n (i := 0) (x_dk dl_25_0_ok 22 rfl)))))))))
def tb_25_23 : Nat → xE := (x_T 68 (x_T 55 (x_T 49 (x_T 45 (x_L 45 (0, xi_push (0, 8, 8) 47, 0, 0)) (x_T 47 (x_L 47 (0, xi_newa 1 0 (0, 0, 0) (xm_c mq_25) (xm_s mq_25) 49, 0, 0)) (x_L 49 (0, xi_putf 9 7 2 52, 0, 0)))) (x_T 52 (x_L 52 (0, xi_load 0 2 53, 0, 0)) (x_T 53 (x_L 53 (0, xi_push (0, 8, 8) 55, 0, 0)) (x_L 55 (0, xi_newa 1 0 (0, 0, 0) (xm_c mq_25) (xm_s mq_25) 57, 0, 0))))) (x_T 61 (x_T 57 (x_L 57 (0, xi_putf 9 8 2 60, 0, 0)) (x_T 60 (x_L 60 (0, xi_load 0 2 61, 0, 0)) (x_L 61 (0, xi_push (0, 8, 8) 63, 0, 0)))) (x_T 63 (x_L 63 (0, xi_newa 1 0 (0, 0, 0) (xm_c mq_25) (xm_s mq_25) 65, 0, 0)) (x_T 65 (x_L 65 (0, xi_putf 9 9 2 68, 0, 0)) (x_L 68 (0, xi_load 0 2 69, 0, 0)))))) (x_T 79 (x_T 73 (x_T 69 (x_L 69 (0, xi_push (0, 8, 8) 71, 0, 0)) (x_T 71 (x_L 71 (0, xi_newa 1 0 (0, 0, 0) (xm_c mq_25) (xm_s mq_25) 73, 0, 0)) (x_L 73 (0, xi_putf 9 10 2 76, 0, 0)))) (x_T 76 (x_L 76 (0, xi_load 0 2 77, 0, 0)) (x_T 77 (x_L 77 (0, xi_push (0, 8, 8) 79, 0, 0)) (x_L 79 (0, xi_newa 1 0 (0, 0, 0) (xm_c mq_25) (xm_s mq_25) 81, 0, 0))))) (x_T 85 (x_T 81 (x_L 81 (0, xi_putf 9 11 2 84, 0, 0)) (x_T 84 (x_L 84 (0, xi_load 0 2 85, 0, 0)) (x_L 85 (0, xi_push (0, 8, 8) 87, 0, 0)))) (x_T 87 (x_L 87 (0, xi_newa 1 0 (0, 0, 0) (xm_c mq_25) (xm_s mq_25) 89, 0, 0)) (x_T 89 (x_L 89 (0, xi_putf 9 12 2 92, 0, 0)) (x_L 92 (1, x_nof, 0, 0)))))))
set_option maxRecDepth 20000 in
set_option maxHeartbeats 4000000 in
theorem tb_25_23_ok (K : xKx) (hK : x_KP K) : ∀ pc, x_EOq cls K xJ mq_25 pc (tb_25_23 pc) :=
  (x_Tok2
  (x_Tok2
  (x_Tok2
  (x_Tok2
  (x_Lok (x_st (I := xJ) (xr_bipush (n := 8) (z := 8) (v := 8) (x_dk dl_25_0_ok 23 rfl) (by decide) (by decide))))
  (x_Tok2
  (x_Lok (x_st (I := xJ) (xr_newa (kd := 1) (b := false) (ty := .int) rfl rfl (in_t1 (List.mem_of_getElem? (i := 64) rfl) rfl) (x_dk dl_25_0_ok 24 rfl))))
  (x_Lok (x_st (I := xJ) (xr_putF (ci := 9) (k := 7) (ix := 27) (N := 17) (fk := 2) (C := RX9) (T := TX9) (ty0 := tyX9) (ty := .array .int) rfl in_X9 tyX9_ok nmX9 (by decide) (in_t3 (List.mem_of_getElem? (i := 146) rfl) rfl) rfl rfl rfl rfl x_fit_arr (x_dk dl_25_0_ok 25 rfl))))))
  (x_Tok2
  (x_Lok (x_st (I := xJ) (xr_aload_n (i := 0) (x_dk dl_25_0_ok 26 rfl))))
  (x_Tok2
  (x_Lok (x_st (I := xJ) (xr_bipush (n := 8) (z := 8) (v := 8) (x_dk dl_25_0_ok 27 rfl) (by decide) (by decide))))
  (x_Lok (x_st (I := xJ) (xr_newa (kd := 1) (b := false) (ty := .int) rfl rfl (in_t1 (List.mem_of_getElem? (i := 64) rfl) rfl) (x_dk dl_25_0_ok 28 rfl)))))))
  (x_Tok2
  (x_Tok2
  (x_Lok (x_st (I := xJ) (xr_putF (ci := 9) (k := 8) (ix := 30) (N := 17) (fk := 2) (C := RX9) (T := TX9) (ty0 := tyX9) (ty := .array .int) rfl in_X9 tyX9_ok nmX9 (by decide) (in_t3 (List.mem_of_getElem? (i := 147) rfl) rfl) rfl rfl rfl rfl x_fit_arr (x_dk dl_25_0_ok 29 rfl))))
  (x_Tok2
  (x_Lok (x_st (I := xJ) (xr_aload_n (i := 0) (x_dk dl_25_0_ok 30 rfl))))
  (x_Lok (x_st (I := xJ) (xr_bipush (n := 8) (z := 8) (v := 8) (x_dk dl_25_0_ok 31 rfl) (by decide) (by decide))))))
  (x_Tok2
  (x_Lok (x_st (I := xJ) (xr_newa (kd := 1) (b := false) (ty := .int) rfl rfl (in_t1 (List.mem_of_getElem? (i := 64) rfl) rfl) (x_dk dl_25_0_ok 32 rfl))))
  (x_Tok2
  (x_Lok (x_st (I := xJ) (xr_putF (ci := 9) (k := 9) (ix := 33) (N := 17) (fk := 2) (C := RX9) (T := TX9) (ty0 := tyX9) (ty := .array .int) rfl in_X9 tyX9_ok nmX9 (by decide) (in_t3 (List.mem_of_getElem? (i := 149) rfl) rfl) rfl rfl rfl rfl x_fit_arr (x_dk dl_25_0_ok 33 rfl))))
  (x_Lok (x_st (I := xJ) (xr_aload_n (i := 0) (x_dk dl_25_0_ok 34 rfl))))))))
  (x_Tok2
  (x_Tok2
  (x_Tok2
  (x_Lok (x_st (I := xJ) (xr_bipush (n := 8) (z := 8) (v := 8) (x_dk dl_25_0_ok 35 rfl) (by decide) (by decide))))
  (x_Tok2
  (x_Lok (x_st (I := xJ) (xr_newa (kd := 1) (b := false) (ty := .int) rfl rfl (in_t1 (List.mem_of_getElem? (i := 64) rfl) rfl) (x_dk dl_25_0_ok 36 rfl))))
  (x_Lok (x_st (I := xJ) (xr_putF (ci := 9) (k := 10) (ix := 36) (N := 17) (fk := 2) (C := RX9) (T := TX9) (ty0 := tyX9) (ty := .array .int) rfl in_X9 tyX9_ok nmX9 (by decide) (in_t3 (List.mem_of_getElem? (i := 150) rfl) rfl) rfl rfl rfl rfl x_fit_arr (x_dk dl_25_0_ok 37 rfl))))))
  (x_Tok2
  (x_Lok (x_st (I := xJ) (xr_aload_n (i := 0) (x_dk dl_25_0_ok 38 rfl))))
  (x_Tok2
  (x_Lok (x_st (I := xJ) (xr_bipush (n := 8) (z := 8) (v := 8) (x_dk dl_25_0_ok 39 rfl) (by decide) (by decide))))
  (x_Lok (x_st (I := xJ) (xr_newa (kd := 1) (b := false) (ty := .int) rfl rfl (in_t1 (List.mem_of_getElem? (i := 64) rfl) rfl) (x_dk dl_25_0_ok 40 rfl)))))))
  (x_Tok2
  (x_Tok2
  (x_Lok (x_st (I := xJ) (xr_putF (ci := 9) (k := 11) (ix := 39) (N := 17) (fk := 2) (C := RX9) (T := TX9) (ty0 := tyX9) (ty := .array .int) rfl in_X9 tyX9_ok nmX9 (by decide) (in_t3 (List.mem_of_getElem? (i := 151) rfl) rfl) rfl rfl rfl rfl x_fit_arr (x_dk dl_25_0_ok 41 rfl))))
  (x_Tok2
  (x_Lok (x_st (I := xJ) (xr_aload_n (i := 0) (x_dk dl_25_0_ok 42 rfl))))
  (x_Lok (x_st (I := xJ) (xr_bipush (n := 8) (z := 8) (v := 8) (x_dk dl_25_0_ok 43 rfl) (by decide) (by decide))))))
  (x_Tok2
  (x_Lok (x_st (I := xJ) (xr_newa (kd := 1) (b := false) (ty := .int) rfl rfl (in_t1 (List.mem_of_getElem? (i := 64) rfl) rfl) (x_dk dl_25_0_ok 44 rfl))))
  (x_Tok2
  (x_Lok (x_st (I := xJ) (xr_putF (ci := 9) (k := 12) (ix := 42) (N := 17) (fk := 2) (C := RX9) (T := TX9) (ty0 := tyX9) (ty := .array .int) rfl in_X9 tyX9_ok nmX9 (by decide) (in_t3 (List.mem_of_getElem? (i := 152) rfl) rfl) rfl rfl rfl rfl x_fit_arr (x_dk dl_25_0_ok 45 rfl))))
  (x_Lok (x_rt (I := xJ) (k := 0) ⟨(x_dk dl_25_0_ok 46 rfl), rfl⟩)))))))
def tb_25 : Nat → xE := (x_T 44 tb_25_0 tb_25_23)
theorem tb_25_ok (K : xKx) (hK : x_KP K) : ∀ pc, x_EOq cls K xJ mq_25 pc (tb_25 pc) := (x_Tok2 (tb_25_0_ok K hK) (tb_25_23_ok K hK))
end
end
