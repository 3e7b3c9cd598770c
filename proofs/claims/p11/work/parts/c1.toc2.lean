-- part c1
section
noncomputable section
/-! the class: geometry -/
/-- points as they were -/
def oK (w : eW) (a : Int) : Prop := e_kn w (17 * a + 90) 0 (w (17 * a + 86) 8) ∧ e_kn w (17 * a + 91) 0 (w (17 * a + 86) 8)
theorem oK.fr {S : Int → Int → Prop} {w w' : eW} {a : Int} (f : e_fr S w w') (hS : ∀ k, ¬ S (17 * a + 90) k ∧ ¬ S (17 * a + 91) k) (h8 : ¬ S (17 * a + 86) 8) (h : oK w a) : oK w' a := by
  unfold oK at h ⊢
  rw [f _ _ h8]
  exact ⟨h.1.fr f (fun k => (hS k).1), h.2.fr f (fun k => (hS k).2)⟩
def kTc (c k : Int) : Prop := c = 250 ∧ 13 ≤ k ∧ k ≤ 16
theorem c_242 {d : Nat} {w : eW} {v lo hi : Int} (g1 : -2147483648 ≤ v ∧ v ≤ 2147483647) (g2 : -2147483648 ≤ lo ∧ lo ≤ 2147483647) (g3 : -2147483648 ≤ hi ∧ hi ≤ 2147483647) : e_Ok 20 elay kcode eI d 242 (0, [(0, (0, v)), (1, (0, lo)), (2, (0, hi))], [], w) (fun r w' => ∃ z : Int, r = [(0, z)] ∧ w = w' ∧ ((z = 1 ∧ lo ≤ v ∧ v ≤ hi) ∨ (z = 0 ∧ (v < lo ∨ hi < v)))) := by
  refine e_Ok.ps2 (x := (0, v)) (y := (0, lo)) (q := 2) 2 rfl ?_
  refine e_Ok.if2 rfl (fun h1 => ?_) (fun h1 => ?_)
  · replace h1 : (lo : Int) > v := h1
    refine e_Ok.ps1 (x := (0, 0)) (q := 15) 1 rfl ?_
    refine e_Ok.rets rfl rfl ?_
    exact ⟨_, rfl, rfl, Or.inr ⟨rfl, by omega⟩⟩
  · replace h1 : (lo : Int) ≤ v := Int.not_lt.mp (show ¬ ((lo : Int) > v) from h1)
    refine e_Ok.ps2 (x := (0, hi)) (y := (0, v)) (q := 7) 2 rfl ?_
    refine e_Ok.if2 rfl (fun h2 => ?_) (fun h2 => ?_)
    · replace h2 : (v : Int) > hi := h2
      refine e_Ok.ps1 (x := (0, 0)) (q := 15) 1 rfl ?_
      refine e_Ok.rets rfl rfl ?_
      exact ⟨_, rfl, rfl, Or.inr ⟨rfl, by omega⟩⟩
    · replace h2 : (v : Int) ≤ hi := Int.not_lt.mp (show ¬ ((v : Int) > hi) from h2)
      refine e_Ok.ps1 (x := (0, 1)) (q := 15) 2 rfl ?_
      refine e_Ok.rets rfl rfl ?_
      exact ⟨_, rfl, rfl, Or.inl ⟨rfl, by omega, by omega⟩⟩
theorem c_249 {d : Nat} {w : eW} {x : Int} (g_x : (-2147483648) ≤ x ∧ x ≤ 2147483647) : e_Ok 20 elay kcode eI d 249 (0, [(0, (0, x))], [], w) (fun r w' => ∃ z : Int, r = [(0, z)] ∧ w = w' ∧ ((-2147483648) ≤ z ∧ z ≤ 2147483647)) := by
  refine e_Ok.ps2 (x := (0, 4095)) (y := (0, x)) (q := 4) 2 rfl ?_
  refine e_Ok.andm 4095 12 rfl (by decide) (fun z1 hz1 => ?_)
  replace hz1 : 0 ≤ z1 ∧ z1 ≤ 4095 := by omega
  refine e_Ok.run (t' := (10, [(1, (0, z1)), (0, (0, x))], [(0, 1024), (0, z1)], w)) 3 rfl ?_
  refine e_Ok.if2 rfl (fun h2 => ?_) (fun h2 => ?_)
  · replace h2 : (z1 : Int) ≥ 1024 := h2
    refine e_Ok.ps2 (x := (0, 2048)) (y := (0, z1)) (q := 23) 2 rfl ?_
    refine e_Ok.if2 rfl (fun h3 => ?_) (fun h3 => ?_)
    · replace h3 : (z1 : Int) ≥ 2048 := h3
      refine e_Ok.ps2 (x := (0, 3072)) (y := (0, z1)) (q := 40) 2 rfl ?_
      refine e_Ok.if2 rfl (fun h4 => ?_) (fun h4 => ?_)
      · replace h4 : (z1 : Int) ≥ 3072 := h4
        refine e_Ok.step rfl rfl ?_
        show e_Ok 20 elay kcode eI d 249 (57, [(1, (0, z1)), (0, (0, x))], [(1, 359)], w) _
        refine e_Ok.ps2 (x := (0, z1)) (y := (0, 4096)) (q := 61) 2 rfl ?_
        refine e_Ok.sub' (z := -z1 + 4096) rfl (by omega) (by omega) ?_
        refine e_Ok.sn rfl (by omega) (fun z5 z5a z5b => ?_)
        refine e_Ok.anyU rfl (fun z6 z6a z6b => ?_)
        refine e_Ok.rets rfl rfl ?_
        exact ⟨_, rfl, rfl, ⟨by omega, by omega⟩⟩
      · replace h4 : (z1 : Int) < 3072 := Int.not_le.mp (show ¬ ((z1 : Int) ≥ 3072) from h4)
        refine e_Ok.step rfl rfl ?_
        show e_Ok 20 elay kcode eI d 249 (46, [(1, (0, z1)), (0, (0, x))], [(1, 359)], w) _
        refine e_Ok.ps2 (x := (0, 2048)) (y := (0, z1)) (q := 50) 2 rfl ?_
        refine e_Ok.sub' (z := z1 - 2048) rfl rfl (by omega) ?_
        refine e_Ok.sn rfl (by omega) (fun z7 z7a z7b => ?_)
        refine e_Ok.anyU rfl (fun z8 z8a z8b => ?_)
        refine e_Ok.rets rfl rfl ?_
        exact ⟨_, rfl, rfl, ⟨by omega, by omega⟩⟩
    · replace h3 : (z1 : Int) < 2048 := Int.not_le.mp (show ¬ ((z1 : Int) ≥ 2048) from h3)
      refine e_Ok.step rfl rfl ?_
      show e_Ok 20 elay kcode eI d 249 (29, [(1, (0, z1)), (0, (0, x))], [(1, 359)], w) _
      refine e_Ok.ps2 (x := (0, z1)) (y := (0, 2048)) (q := 33) 2 rfl ?_
      refine e_Ok.sub' (z := -z1 + 2048) rfl (by omega) (by omega) ?_
      refine e_Ok.sn rfl (by omega) (fun z9 z9a z9b => ?_)
      refine e_Ok.rets rfl rfl ?_
      exact ⟨_, rfl, rfl, ⟨by omega, by omega⟩⟩
  · replace h2 : (z1 : Int) < 1024 := Int.not_le.mp (show ¬ ((z1 : Int) ≥ 1024) from h2)
    refine e_Ok.step rfl rfl ?_
    show e_Ok 20 elay kcode eI d 249 (16, [(1, (0, z1)), (0, (0, x))], [(1, 359)], w) _
    refine e_Ok.ps1 (x := (0, z1)) (q := 17) 1 rfl ?_
    refine e_Ok.sn rfl (by omega) (fun z10 z10a z10b => ?_)
    refine e_Ok.rets rfl rfl ?_
    exact ⟨_, rfl, rfl, ⟨by omega, by omega⟩⟩
theorem c_250 {d : Nat} (hd : 21 ≤ d) {w : eW} {x : Int} (g_x : (-2147483648) ≤ x ∧ x ≤ 2147483647) : e_Ok 20 elay kcode eI d 250 (0, [(0, (0, x))], [], w) (fun r w' => ∃ z : Int, r = [(0, z)] ∧ w = w' ∧ ((-2147483648) ≤ z ∧ z ≤ 2147483647)) := by
  obtain ⟨d, rfl⟩ : ∃ e, d = e + 1 := ⟨d - 1, by omega⟩
  refine e_Ok.ps2 (x := (0, 1024)) (y := (0, x)) (q := 4) 2 rfl ?_
  refine e_Ok.any rfl (eF_add_any _ _) (fun z1 z1a z1b => ?_)
  refine e_Ok.callS rfl (e_dq hd rfl) rfl rfl (c_249 (by omega)) (fun r2 w3 h4 => ?_)
  obtain ⟨z6, rfl, rfl, q5r⟩ := h4
  refine e_Ok.nrm (q := 8) (st' := [(0, z6)]) rfl rfl ?_
  refine e_Ok.rets rfl rfl ?_
  exact ⟨_, rfl, rfl, ⟨by omega, by omega⟩⟩
theorem c_177 {d : Nat} {w : eW} {dx dy px py : Int} (g_dx : (-2147483648) ≤ dx ∧ dx ≤ 2147483647) (g_dy : (-2147483648) ≤ dy ∧ dy ≤ 2147483647) (g_px : (-2147483648) ≤ px ∧ px ≤ 2147483647) (g_py : (-2147483648) ≤ py ∧ py ≤ 2147483647) : e_Ok 20 elay kcode eI d 177 (0, [(0, (0, dx)), (1, (0, dy)), (2, (0, px)), (3, (0, py))], [], w) (fun r w' => ∃ z : Int, r = [(4, z)] ∧ w = w') := by
  refine e_Ok.ps2 (x := (4, py)) (y := (4, dx)) (q := 4) 4 rfl ?_
  refine e_Ok.anyL rfl ⟨_, rfl⟩ (fun x1 => ?_)
  refine e_Ok.ps2 (x := (4, px)) (y := (4, dy)) (q := 9) 4 rfl ?_
  refine e_Ok.anyL rfl ⟨_, rfl⟩ (fun x2 => ?_)
  refine e_Ok.anyL rfl ⟨_, rfl⟩ (fun x3 => ?_)
  refine e_Ok.rets rfl rfl ?_
  exact ⟨_, rfl, rfl⟩
theorem c_178 {d : Nat} {w : eW} {dx dy : Int} (g_dx : (-2147483648) ≤ dx ∧ dx ≤ 2147483647) (g_dy : (-2147483648) ≤ dy ∧ dy ≤ 2147483647) : e_Ok 20 elay kcode eI d 178 (0, [(0, (0, dx)), (1, (0, dy))], [], w) (fun r w' => ∃ z : Int, r = [(4, z)] ∧ w = w') := by
  refine e_Ok.ps2 (x := (4, dx)) (y := (4, dx)) (q := 4) 4 rfl ?_
  refine e_Ok.anyL rfl ⟨_, rfl⟩ (fun x1 => ?_)
  refine e_Ok.ps2 (x := (4, dy)) (y := (4, dy)) (q := 9) 4 rfl ?_
  refine e_Ok.anyL rfl ⟨_, rfl⟩ (fun x2 => ?_)
  refine e_Ok.anyL rfl ⟨_, rfl⟩ (fun x3 => ?_)
  refine e_Ok.rets rfl rfl ?_
  exact ⟨_, rfl, rfl⟩
theorem c_176 {d : Nat} {w : eW} {dx dy px py rr : Int} (g_dx : (-2147483648) ≤ dx ∧ dx ≤ 2147483647) (g_dy : (-2147483648) ≤ dy ∧ dy ≤ 2147483647) (g_px : (-2147483648) ≤ px ∧ px ≤ 2147483647) (g_py : (-2147483648) ≤ py ∧ py ≤ 2147483647) (g_rr : (-2147483648) ≤ rr ∧ rr ≤ 2147483647) : e_Ok 20 elay kcode eI d 176 (0, [(0, (0, dx)), (1, (0, dy)), (2, (0, px)), (3, (0, py)), (4, (0, rr))], [], w) (fun r w' => ∃ z : Int, r = [(0, z)] ∧ w = w' ∧ (0 ≤ z ∧ z ≤ 1)) := by
  refine e_Ok.ps2 (x := (4, rr)) (y := (4, rr)) (q := 6) 4 rfl ?_
  refine e_Ok.anyL rfl ⟨_, rfl⟩ (fun x1 => ?_)
  refine e_Ok.run (t' := (13, [(5, (4, x1)), (0, (0, dx)), (1, (0, dy)), (2, (0, px)), (3, (0, py)), (4, (0, rr))], [(4, px), (4, px)], w)) 5 rfl ?_
  refine e_Ok.anyL rfl ⟨_, rfl⟩ (fun x2 => ?_)
  refine e_Ok.ps2 (x := (4, py)) (y := (4, py)) (q := 18) 4 rfl ?_
  refine e_Ok.anyL rfl ⟨_, rfl⟩ (fun x3 => ?_)
  refine e_Ok.anyL rfl ⟨_, rfl⟩ (fun x4 => ?_)
  refine e_Ok.run (t' := (26, [(7, (4, x4)), (5, (4, x1)), (0, (0, dx)), (1, (0, dy)), (2, (0, px)), (3, (0, py)), (4, (0, rr))], [(4, px), (4, dx)], w)) 5 rfl ?_
  refine e_Ok.anyL rfl ⟨_, rfl⟩ (fun x5 => ?_)
  refine e_Ok.ps2 (x := (4, py)) (y := (4, dy)) (q := 31) 4 rfl ?_
  refine e_Ok.anyL rfl ⟨_, rfl⟩ (fun x6 => ?_)
  refine e_Ok.anyL rfl ⟨_, rfl⟩ (fun x7 => ?_)
  refine e_Ok.run (t' := (38, [(9, (4, x7)), (7, (4, x4)), (5, (4, x1)), (0, (0, dx)), (1, (0, dy)), (2, (0, px)), (3, (0, py)), (4, (0, rr))], [(4, 0), (4, x7)], w)) 3 rfl ?_
  refine e_Ok.lcmp rfl (fun z8 z8a z8b z8c => ?_)
  refine e_Ok.if1 rfl (fun h9 => ?_) (fun h9 => ?_)
  · replace h9 : (z8 : Int) > 0 := h9
    refine e_Ok.ps2 (x := (4, dx)) (y := (4, dx)) (q := 60) 4 rfl ?_
    refine e_Ok.anyL rfl ⟨_, rfl⟩ (fun x10 => ?_)
    refine e_Ok.ps2 (x := (4, dy)) (y := (4, dy)) (q := 65) 4 rfl ?_
    refine e_Ok.anyL rfl ⟨_, rfl⟩ (fun x11 => ?_)
    refine e_Ok.anyL rfl ⟨_, rfl⟩ (fun x12 => ?_)
    refine e_Ok.run (t' := (73, [(11, (4, x12)), (9, (4, x7)), (7, (4, x4)), (5, (4, x1)), (0, (0, dx)), (1, (0, dy)), (2, (0, px)), (3, (0, py)), (4, (0, rr))], [(4, x12), (4, x7)], w)) 3 rfl ?_
    refine e_Ok.lcmp rfl (fun z13 z13a z13b z13c => ?_)
    refine e_Ok.if1 rfl (fun h14 => ?_) (fun h14 => ?_)
    · replace h14 : (z13 : Int) < 0 := h14
      refine e_Ok.ps2 (x := (4, py)) (y := (4, dx)) (q := 105) 4 rfl ?_
      refine e_Ok.anyL rfl ⟨_, rfl⟩ (fun x15 => ?_)
      refine e_Ok.ps2 (x := (4, px)) (y := (4, dy)) (q := 110) 4 rfl ?_
      refine e_Ok.anyL rfl ⟨_, rfl⟩ (fun x16 => ?_)
      refine e_Ok.anyL rfl ⟨_, rfl⟩ (fun x17 => ?_)
      refine e_Ok.run (t' := (118, [(13, (4, x17)), (11, (4, x12)), (9, (4, x7)), (7, (4, x4)), (5, (4, x1)), (0, (0, dx)), (1, (0, dy)), (2, (0, px)), (3, (0, py)), (4, (0, rr))], [(4, x17), (4, x17)], w)) 3 rfl ?_
      refine e_Ok.anyL rfl ⟨_, rfl⟩ (fun x18 => ?_)
      refine e_Ok.ps2 (x := (4, x12)) (y := (4, x1)) (q := 123) 2 rfl ?_
      refine e_Ok.anyL rfl ⟨_, rfl⟩ (fun x19 => ?_)
      refine e_Ok.lcmp rfl (fun z20 z20a z20b z20c => ?_)
      have hJ23 : ∀ m22 : Int, 0 ≤ m22 ∧ m22 ≤ 1 → e_Ok 20 elay kcode eI d 176 (133, [(13, (4, x17)), (11, (4, x12)), (9, (4, x7)), (7, (4, x4)), (5, (4, x1)), (0, (0, dx)), (1, (0, dy)), (2, (0, px)), (3, (0, py)), (4, (0, rr))], [(0, m22)], w) (fun r w' => ∃ z : Int, r = [(0, z)] ∧ w = w' ∧ (0 ≤ z ∧ z ≤ 1)) := by
        intro m22 m22r
        refine e_Ok.retb rfl (by omega) ?_
        exact ⟨_, rfl, rfl, ⟨by omega, by omega⟩⟩
      refine e_Ok.if1 rfl (fun h21 => ?_) (fun h21 => ?_)
      · exact e_Ok.run 1 rfl (hJ23 0 (by omega))
      · exact e_Ok.run 2 rfl (hJ23 1 (by omega))
    · replace h14 : (z13 : Int) ≥ 0 := Int.not_lt.mp (show ¬ ((z13 : Int) < 0) from h14)
      refine e_Ok.ps3 (x := (4, x7)) (y := (4, 2)) (z := (4, x4)) (q := 84) 3 rfl ?_
      refine e_Ok.anyL rfl ⟨_, rfl⟩ (fun x24 => ?_)
      refine e_Ok.anyL rfl ⟨_, rfl⟩ (fun x25 => ?_)
      refine e_Ok.ps1 (x := (4, x12)) (q := 88) 1 rfl ?_
      refine e_Ok.anyL rfl ⟨_, rfl⟩ (fun x26 => ?_)
      refine e_Ok.ps1 (x := (4, x1)) (q := 91) 1 rfl ?_
      refine e_Ok.lcmp rfl (fun z27 z27a z27b z27c => ?_)
      have hJ30 : ∀ m29 : Int, 0 ≤ m29 ∧ m29 ≤ 1 → e_Ok 20 elay kcode eI d 176 (100, [(11, (4, x12)), (9, (4, x7)), (7, (4, x4)), (5, (4, x1)), (0, (0, dx)), (1, (0, dy)), (2, (0, px)), (3, (0, py)), (4, (0, rr))], [(0, m29)], w) (fun r w' => ∃ z : Int, r = [(0, z)] ∧ w = w' ∧ (0 ≤ z ∧ z ≤ 1)) := by
        intro m29 m29r
        refine e_Ok.retb rfl (by omega) ?_
        exact ⟨_, rfl, rfl, ⟨by omega, by omega⟩⟩
      refine e_Ok.if1 rfl (fun h28 => ?_) (fun h28 => ?_)
      · exact e_Ok.run 1 rfl (hJ30 0 (by omega))
      · exact e_Ok.run 2 rfl (hJ30 1 (by omega))
  · replace h9 : (z8 : Int) ≤ 0 := Int.not_lt.mp (show ¬ ((z8 : Int) > 0) from h9)
    refine e_Ok.ps2 (x := (4, x1)) (y := (4, x4)) (q := 46) 2 rfl ?_
    refine e_Ok.lcmp rfl (fun z31 z31a z31b z31c => ?_)
    have hJ34 : ∀ m33 : Int, 0 ≤ m33 ∧ m33 ≤ 1 → e_Ok 20 elay kcode eI d 176 (55, [(9, (4, x7)), (7, (4, x4)), (5, (4, x1)), (0, (0, dx)), (1, (0, dy)), (2, (0, px)), (3, (0, py)), (4, (0, rr))], [(0, m33)], w) (fun r w' => ∃ z : Int, r = [(0, z)] ∧ w = w' ∧ (0 ≤ z ∧ z ≤ 1)) := by
      intro m33 m33r
      refine e_Ok.retb rfl (by omega) ?_
      exact ⟨_, rfl, rfl, ⟨by omega, by omega⟩⟩
    refine e_Ok.if1 rfl (fun h32 => ?_) (fun h32 => ?_)
    · exact e_Ok.run 1 rfl (hJ34 0 (by omega))
    · exact e_Ok.run 2 rfl (hJ34 1 (by omega))
theorem c_174 {d : Nat} {w : eW} (hT : e_Has kTy w) {cx cy dx dy rr : Int} (g_cx : (-2147483648) ≤ cx ∧ cx ≤ 2147483647) (g_cy : (-2147483648) ≤ cy ∧ cy ≤ 2147483647) (g_dx : (-2147483648) ≤ dx ∧ dx ≤ 2147483647) (g_dy : (-2147483648) ≤ dy ∧ dy ≤ 2147483647) (g_rr : (-2147483648) ≤ rr ∧ rr ≤ 2147483647) (kl : e_kn w 250 13 16) : e_Ok 20 elay kcode eI d 174 (0, [(0, (1, 250)), (1, (0, cx)), (2, (0, cy)), (3, (0, dx)), (4, (0, dy)), (5, (0, rr))], [], w) (fun r w' => ∃ z : Int, r = [(0, z)] ∧ w = w' ∧ (0 ≤ z ∧ z ≤ 1)) := by
  refine e_Ok.ps1 (x := (1, 250)) (q := 1) 1 rfl ?_
  have h1 := (kl 13 (by omega) (by omega))
  refine e_Ok.getf (z := w 250 13) rfl (el_o rfl) rfl rfl rfl (by omega) ?_
  refine e_Ok.ps1 (x := (1, 250)) (q := 5) 1 rfl ?_
  have h2 := (kl 15 (by omega) (by omega))
  refine e_Ok.getf (z := w 250 15) rfl (el_o rfl) rfl rfl rfl (by omega) ?_
  refine e_Ok.mmax rfl rfl (fun z3 hz3 => ?_)
  replace hz3 : ((w 250 13) < w 250 15 ∧ z3 = w 250 15) ∨ ((w 250 15) ≤ w 250 13 ∧ z3 = w 250 13) := hz3
  refine e_Ok.ps1 (x := (0, rr)) (q := 13) 1 rfl ?_
  refine e_Ok.any rfl (eF_add_any _ _) (fun z4 z4a z4b => ?_)
  refine e_Ok.ps2 (x := (0, dx)) (y := (0, cx)) (q := 16) 2 rfl ?_
  refine e_Ok.mmin rfl rfl (fun z5 hz5 => ?_)
  replace hz5 : (dx < cx ∧ z5 = dx) ∨ (cx ≤ dx ∧ z5 = cx) := hz5
  refine e_Ok.if2 rfl (fun h6 => ?_) (fun h6 => ?_)
  · replace h6 : (z4 : Int) < z5 := h6
    refine e_Ok.ps1 (x := (0, 1)) (q := 95) 2 rfl ?_
    refine e_Ok.rets rfl rfl ?_
    exact ⟨_, rfl, rfl, ⟨by omega, by omega⟩⟩
  · replace h6 : (z4 : Int) ≥ z5 := Int.not_lt.mp (show ¬ ((z4 : Int) < z5) from h6)
    refine e_Ok.ps2 (x := (0, dx)) (y := (0, cx)) (q := 24) 2 rfl ?_
    refine e_Ok.mmax rfl rfl (fun z7 hz7 => ?_)
    replace hz7 : (cx < dx ∧ z7 = dx) ∨ (dx ≤ cx ∧ z7 = cx) := hz7
    refine e_Ok.ps1 (x := (0, rr)) (q := 29) 1 rfl ?_
    refine e_Ok.any rfl (eF_add_any _ _) (fun z8 z8a z8b => ?_)
    refine e_Ok.ps1 (x := (1, 250)) (q := 31) 1 rfl ?_
    refine e_Ok.getf (z := w 250 13) rfl (el_o rfl) rfl rfl rfl (by omega) ?_
    refine e_Ok.ps1 (x := (1, 250)) (q := 35) 1 rfl ?_
    refine e_Ok.getf (z := w 250 15) rfl (el_o rfl) rfl rfl rfl (by omega) ?_
    refine e_Ok.mmin rfl rfl (fun z9 hz9 => ?_)
    replace hz9 : ((w 250 15) < w 250 13 ∧ z9 = w 250 15) ∨ ((w 250 13) ≤ w 250 15 ∧ z9 = w 250 13) := hz9
    refine e_Ok.if2 rfl (fun h10 => ?_) (fun h10 => ?_)
    · replace h10 : (z8 : Int) < z9 := h10
      refine e_Ok.ps1 (x := (0, 1)) (q := 95) 2 rfl ?_
      refine e_Ok.rets rfl rfl ?_
      exact ⟨_, rfl, rfl, ⟨by omega, by omega⟩⟩
    · replace h10 : (z8 : Int) ≥ z9 := Int.not_lt.mp (show ¬ ((z8 : Int) < z9) from h10)
      refine e_Ok.ps1 (x := (1, 250)) (q := 45) 1 rfl ?_
      have h11 := (kl 14 (by omega) (by omega))
      refine e_Ok.getf (z := w 250 14) rfl (el_o rfl) rfl rfl rfl (by omega) ?_
      refine e_Ok.ps1 (x := (1, 250)) (q := 49) 1 rfl ?_
      have h12 := (kl 16 (by omega) (by omega))
      refine e_Ok.getf (z := w 250 16) rfl (el_o rfl) rfl rfl rfl (by omega) ?_
      refine e_Ok.mmax rfl rfl (fun z13 hz13 => ?_)
      replace hz13 : ((w 250 14) < w 250 16 ∧ z13 = w 250 16) ∨ ((w 250 16) ≤ w 250 14 ∧ z13 = w 250 14) := hz13
      refine e_Ok.ps1 (x := (0, rr)) (q := 57) 1 rfl ?_
      refine e_Ok.any rfl (eF_add_any _ _) (fun z14 z14a z14b => ?_)
      refine e_Ok.ps2 (x := (0, dy)) (y := (0, cy)) (q := 61) 2 rfl ?_
      refine e_Ok.mmin rfl rfl (fun z15 hz15 => ?_)
      replace hz15 : (dy < cy ∧ z15 = dy) ∨ (cy ≤ dy ∧ z15 = cy) := hz15
      refine e_Ok.if2 rfl (fun h16 => ?_) (fun h16 => ?_)
      · replace h16 : (z14 : Int) < z15 := h16
        refine e_Ok.ps1 (x := (0, 1)) (q := 95) 2 rfl ?_
        refine e_Ok.rets rfl rfl ?_
        exact ⟨_, rfl, rfl, ⟨by omega, by omega⟩⟩
      · replace h16 : (z14 : Int) ≥ z15 := Int.not_lt.mp (show ¬ ((z14 : Int) < z15) from h16)
        refine e_Ok.ps2 (x := (0, dy)) (y := (0, cy)) (q := 70) 2 rfl ?_
        refine e_Ok.mmax rfl rfl (fun z17 hz17 => ?_)
        replace hz17 : (cy < dy ∧ z17 = dy) ∨ (dy ≤ cy ∧ z17 = cy) := hz17
        refine e_Ok.ps1 (x := (0, rr)) (q := 75) 1 rfl ?_
        refine e_Ok.any rfl (eF_add_any _ _) (fun z18 z18a z18b => ?_)
        refine e_Ok.ps1 (x := (1, 250)) (q := 77) 1 rfl ?_
        refine e_Ok.getf (z := w 250 14) rfl (el_o rfl) rfl rfl rfl (by omega) ?_
        refine e_Ok.ps1 (x := (1, 250)) (q := 81) 1 rfl ?_
        refine e_Ok.getf (z := w 250 16) rfl (el_o rfl) rfl rfl rfl (by omega) ?_
        refine e_Ok.mmin rfl rfl (fun z19 hz19 => ?_)
        replace hz19 : ((w 250 16) < w 250 14 ∧ z19 = w 250 16) ∨ ((w 250 14) ≤ w 250 16 ∧ z19 = w 250 14) := hz19
        have hJ22 : ∀ m21 : Int, 0 ≤ m21 ∧ m21 ≤ 1 → e_Ok 20 elay kcode eI d 174 (95, [(0, (1, 250)), (1, (0, cx)), (2, (0, cy)), (3, (0, dx)), (4, (0, dy)), (5, (0, rr))], [(0, m21)], w) (fun r w' => ∃ z : Int, r = [(0, z)] ∧ w = w' ∧ (0 ≤ z ∧ z ≤ 1)) := by
          intro m21 m21r
          refine e_Ok.retb rfl (by omega) ?_
          exact ⟨_, rfl, rfl, ⟨by omega, by omega⟩⟩
        refine e_Ok.if2 rfl (fun h20 => ?_) (fun h20 => ?_)
        · exact e_Ok.run 1 rfl (hJ22 0 (by omega))
        · exact e_Ok.run 2 rfl (hJ22 1 (by omega))
theorem c_175 {d : Nat} (hd : 21 ≤ d) {w : eW} (hT : e_Has kTy w) {cx cy dx dy rr : Int} (g_cx : (-2147483648) ≤ cx ∧ cx ≤ 2147483647) (g_cy : (-2147483648) ≤ cy ∧ cy ≤ 2147483647) (g_dx : (-2147483648) ≤ dx ∧ dx ≤ 2147483647) (g_dy : (-2147483648) ≤ dy ∧ dy ≤ 2147483647) (g_rr : (-2147483648) ≤ rr ∧ rr ≤ 2147483647) (kl : e_kn w 250 13 16) : e_Ok 20 elay kcode eI d 175 (0, [(0, (1, 250)), (1, (0, cx)), (2, (0, cy)), (3, (0, dx)), (4, (0, dy)), (5, (0, rr))], [], w) (fun r w' => ∃ z : Int, r = [(0, z)] ∧ w = w' ∧ (0 ≤ z ∧ z ≤ 1)) := by
  obtain ⟨d, rfl⟩ : ∃ e, d = e + 1 := ⟨d - 1, by omega⟩
  have hC324 : e_Ok 20 elay kcode eI (d + 1) 175 (324, [(0, (1, 250))], [], w) (fun r w' => ∃ z : Int, r = [(0, z)] ∧ w = w' ∧ (0 ≤ z ∧ z ≤ 1)) := by
    refine e_Ok.run (t' := (329, [(0, (1, 250))], [(0, 1)], w)) 2 rfl ?_
    refine e_Ok.rets rfl rfl ?_
    exact ⟨_, rfl, rfl, ⟨by omega, by omega⟩⟩
  refine e_Ok.run (t' := (8, [(0, (1, 250)), (1, (0, cx)), (2, (0, cy)), (3, (0, dx)), (4, (0, dy)), (5, (0, rr))], [(0, rr), (0, dy), (0, dx), (0, cy), (0, cx), (1, 250)], w)) 6 rfl ?_
  refine e_Ok.callV rfl (e_dq hd rfl) rfl rfl rfl rfl (c_174 hT (by omega) (by omega) (by omega) (by omega) (by omega) kl) (fun r1 w2 h3 => ?_)
  obtain ⟨z5, rfl, rfl, q4r⟩ := h3
  refine e_Ok.nrm (q := 11) (st' := [(0, z5)]) rfl rfl ?_
  refine e_Ok.if1 rfl (fun h6 => ?_) (fun h6 => ?_)
  · replace h6 : (z5 : Int) = 0 := h6
    refine e_Ok.ps1 (x := (1, 250)) (q := 17) 1 rfl ?_
    have h7 := (kl 15 (by omega) (by omega))
    refine e_Ok.getf (z := w 250 15) rfl (el_o rfl) rfl rfl rfl (by omega) ?_
    refine e_Ok.ps1 (x := (1, 250)) (q := 21) 1 rfl ?_
    have h8 := (kl 13 (by omega) (by omega))
    refine e_Ok.getf (z := w 250 13) rfl (el_o rfl) rfl rfl rfl (by omega) ?_
    refine e_Ok.any rfl (eF_sub_any _ _) (fun z9 z9a z9b => ?_)
    refine e_Ok.ps1 (x := (1, 250)) (q := 26) 1 rfl ?_
    have h10 := (kl 16 (by omega) (by omega))
    refine e_Ok.getf (z := w 250 16) rfl (el_o rfl) rfl rfl rfl (by omega) ?_
    refine e_Ok.ps1 (x := (1, 250)) (q := 30) 1 rfl ?_
    have h11 := (kl 14 (by omega) (by omega))
    refine e_Ok.getf (z := w 250 14) rfl (el_o rfl) rfl rfl rfl (by omega) ?_
    refine e_Ok.any rfl (eF_sub_any _ _) (fun z12 z12a z12b => ?_)
    refine e_Ok.ps2 (x := (1, 250)) (y := (0, cx)) (q := 36) 2 rfl ?_
    refine e_Ok.getf (z := w 250 13) rfl (el_o rfl) rfl rfl rfl (by omega) ?_
    refine e_Ok.any rfl (eF_sub_any _ _) (fun z13 z13a z13b => ?_)
    refine e_Ok.ps2 (x := (1, 250)) (y := (0, cy)) (q := 42) 2 rfl ?_
    refine e_Ok.getf (z := w 250 14) rfl (el_o rfl) rfl rfl rfl (by omega) ?_
    refine e_Ok.any rfl (eF_sub_any _ _) (fun z14 z14a z14b => ?_)
    refine e_Ok.callS rfl (e_dq hd rfl) rfl rfl (c_177 (by omega) (by omega) (by omega) (by omega)) (fun r15 w16 h17 => ?_)
    obtain ⟨x18, rfl, rfl⟩ := h17
    refine e_Ok.nrm (q := 49) (st' := [(4, x18)]) rfl rfl ?_
    refine e_Ok.run (t' := (52, [(6, (4, x18)), (0, (1, 250)), (1, (0, cx)), (2, (0, cy)), (3, (0, dx)), (4, (0, dy)), (5, (0, rr))], [(1, 250)], w)) 2 rfl ?_
    refine e_Ok.getf (z := w 250 15) rfl (el_o rfl) rfl rfl rfl (by omega) ?_
    refine e_Ok.ps1 (x := (1, 250)) (q := 56) 1 rfl ?_
    refine e_Ok.getf (z := w 250 13) rfl (el_o rfl) rfl rfl rfl (by omega) ?_
    refine e_Ok.any rfl (eF_sub_any _ _) (fun z19 z19a z19b => ?_)
    refine e_Ok.ps1 (x := (1, 250)) (q := 61) 1 rfl ?_
    refine e_Ok.getf (z := w 250 16) rfl (el_o rfl) rfl rfl rfl (by omega) ?_
    refine e_Ok.ps1 (x := (1, 250)) (q := 65) 1 rfl ?_
    refine e_Ok.getf (z := w 250 14) rfl (el_o rfl) rfl rfl rfl (by omega) ?_
    refine e_Ok.any rfl (eF_sub_any _ _) (fun z20 z20a z20b => ?_)
    refine e_Ok.ps2 (x := (1, 250)) (y := (0, dx)) (q := 71) 2 rfl ?_
    refine e_Ok.getf (z := w 250 13) rfl (el_o rfl) rfl rfl rfl (by omega) ?_
    refine e_Ok.any rfl (eF_sub_any _ _) (fun z21 z21a z21b => ?_)
    refine e_Ok.ps2 (x := (1, 250)) (y := (0, dy)) (q := 78) 2 rfl ?_
    refine e_Ok.getf (z := w 250 14) rfl (el_o rfl) rfl rfl rfl (by omega) ?_
    refine e_Ok.any rfl (eF_sub_any _ _) (fun z22 z22a z22b => ?_)
    refine e_Ok.callS rfl (e_dq hd rfl) rfl rfl (c_177 (by omega) (by omega) (by omega) (by omega)) (fun r23 w24 h25 => ?_)
    obtain ⟨x26, rfl, rfl⟩ := h25
    refine e_Ok.nrm (q := 85) (st' := [(4, x26)]) rfl rfl ?_
    refine e_Ok.run (t' := (89, [(8, (4, x26)), (6, (4, x18)), (0, (1, 250)), (1, (0, cx)), (2, (0, cy)), (3, (0, dx)), (4, (0, dy)), (5, (0, rr))], [(0, cx), (0, dx)], w)) 3 rfl ?_
    refine e_Ok.any rfl (eF_sub_any _ _) (fun z27 z27a z27b => ?_)
    refine e_Ok.ps2 (x := (0, cy)) (y := (0, dy)) (q := 93) 2 rfl ?_
    refine e_Ok.any rfl (eF_sub_any _ _) (fun z28 z28a z28b => ?_)
    refine e_Ok.ps1 (x := (1, 250)) (q := 95) 1 rfl ?_
    refine e_Ok.getf (z := w 250 13) rfl (el_o rfl) rfl rfl rfl (by omega) ?_
    refine e_Ok.ps1 (x := (0, cx)) (q := 99) 1 rfl ?_
    refine e_Ok.any rfl (eF_sub_any _ _) (fun z29 z29a z29b => ?_)
    refine e_Ok.ps1 (x := (1, 250)) (q := 101) 1 rfl ?_
    refine e_Ok.getf (z := w 250 14) rfl (el_o rfl) rfl rfl rfl (by omega) ?_
    refine e_Ok.ps1 (x := (0, cy)) (q := 105) 1 rfl ?_
    refine e_Ok.any rfl (eF_sub_any _ _) (fun z30 z30a z30b => ?_)
    refine e_Ok.callS rfl (e_dq hd rfl) rfl rfl (c_177 (by omega) (by omega) (by omega) (by omega)) (fun r31 w32 h33 => ?_)
    obtain ⟨x34, rfl, rfl⟩ := h33
    refine e_Ok.nrm (q := 109) (st' := [(4, x34)]) rfl rfl ?_
    refine e_Ok.run (t' := (113, [(10, (4, x34)), (8, (4, x26)), (6, (4, x18)), (0, (1, 250)), (1, (0, cx)), (2, (0, cy)), (3, (0, dx)), (4, (0, dy)), (5, (0, rr))], [(0, cx), (0, dx)], w)) 3 rfl ?_
    refine e_Ok.any rfl (eF_sub_any _ _) (fun z35 z35a z35b => ?_)
    refine e_Ok.ps2 (x := (0, cy)) (y := (0, dy)) (q := 117) 2 rfl ?_
    refine e_Ok.any rfl (eF_sub_any _ _) (fun z36 z36a z36b => ?_)
    refine e_Ok.ps1 (x := (1, 250)) (q := 119) 1 rfl ?_
    refine e_Ok.getf (z := w 250 15) rfl (el_o rfl) rfl rfl rfl (by omega) ?_
    refine e_Ok.ps1 (x := (0, cx)) (q := 123) 1 rfl ?_
    refine e_Ok.any rfl (eF_sub_any _ _) (fun z37 z37a z37b => ?_)
    refine e_Ok.ps1 (x := (1, 250)) (q := 125) 1 rfl ?_
    refine e_Ok.getf (z := w 250 16) rfl (el_o rfl) rfl rfl rfl (by omega) ?_
    refine e_Ok.ps1 (x := (0, cy)) (q := 129) 1 rfl ?_
    refine e_Ok.any rfl (eF_sub_any _ _) (fun z38 z38a z38b => ?_)
    refine e_Ok.callS rfl (e_dq hd rfl) rfl rfl (c_177 (by omega) (by omega) (by omega) (by omega)) (fun r40 w41 h42 => ?_)
    obtain ⟨x43, rfl, rfl⟩ := h42
    refine e_Ok.nrm (q := 133) (st' := [(4, x43)]) rfl rfl ?_
    refine e_Ok.run (t' := (135, [(12, (4, x43)), (10, (4, x34)), (8, (4, x26)), (6, (4, x18)), (0, (1, 250)), (1, (0, cx)), (2, (0, cy)), (3, (0, dx)), (4, (0, dy)), (5, (0, rr))], [], w)) 1 rfl ?_
    have hC193 : e_Ok 20 elay kcode eI (d + 1) 175 (193, [(0, (1, 250)), (1, (0, cx)), (2, (0, cy)), (3, (0, dx)), (4, (0, dy)), (5, (0, rr))], [], w) (fun r w' => ∃ z : Int, r = [(0, z)] ∧ w = w' ∧ (0 ≤ z ∧ z ≤ 1)) := by
      refine e_Ok.run (t' := (194, [(0, (1, 250)), (1, (0, cx)), (2, (0, cy)), (3, (0, dx)), (4, (0, dy)), (5, (0, rr))], [(1, 250)], w)) 1 rfl ?_
      refine e_Ok.getf (z := w 250 15) rfl (el_o rfl) rfl rfl rfl (by omega) ?_
      refine e_Ok.ps1 (x := (1, 250)) (q := 198) 1 rfl ?_
      refine e_Ok.getf (z := w 250 13) rfl (el_o rfl) rfl rfl rfl (by omega) ?_
      refine e_Ok.any rfl (eF_sub_any _ _) (fun z44 z44a z44b => ?_)
      refine e_Ok.ps1 (x := (1, 250)) (q := 203) 1 rfl ?_
      refine e_Ok.getf (z := w 250 16) rfl (el_o rfl) rfl rfl rfl (by omega) ?_
      refine e_Ok.ps1 (x := (1, 250)) (q := 207) 1 rfl ?_
      refine e_Ok.getf (z := w 250 14) rfl (el_o rfl) rfl rfl rfl (by omega) ?_
      refine e_Ok.any rfl (eF_sub_any _ _) (fun z45 z45a z45b => ?_)
      refine e_Ok.ps2 (x := (1, 250)) (y := (0, cx)) (q := 213) 2 rfl ?_
      refine e_Ok.getf (z := w 250 13) rfl (el_o rfl) rfl rfl rfl (by omega) ?_
      refine e_Ok.any rfl (eF_sub_any _ _) (fun z46 z46a z46b => ?_)
      refine e_Ok.ps2 (x := (1, 250)) (y := (0, cy)) (q := 219) 2 rfl ?_
      refine e_Ok.getf (z := w 250 14) rfl (el_o rfl) rfl rfl rfl (by omega) ?_
      refine e_Ok.any rfl (eF_sub_any _ _) (fun z47 z47a z47b => ?_)
      refine e_Ok.ps1 (x := (0, rr)) (q := 225) 1 rfl ?_
      refine e_Ok.callS rfl (e_dq hd rfl) rfl rfl (c_176 (by omega) (by omega) (by omega) (by omega) (by omega)) (fun r48 w49 h50 => ?_)
      obtain ⟨z52, rfl, rfl, q51r⟩ := h50
      refine e_Ok.nrm (q := 228) (st' := [(0, z52)]) rfl rfl ?_
      refine e_Ok.if1 rfl (fun h53 => ?_) (fun h53 => ?_)
      · replace h53 : (z52 : Int) ≠ 0 := h53
        refine e_Ok.sub kAlk (e_sub_of rfl ?_) hC324
        exact ⟨rfl, trivial⟩
      · replace h53 : (z52 : Int) = 0 := Classical.not_not.mp (show ¬ ((z52 : Int) ≠ 0) from h53)
        refine e_Ok.ps1 (x := (1, 250)) (q := 232) 1 rfl ?_
        refine e_Ok.getf (z := w 250 15) rfl (el_o rfl) rfl rfl rfl (by omega) ?_
        refine e_Ok.ps1 (x := (1, 250)) (q := 236) 1 rfl ?_
        refine e_Ok.getf (z := w 250 13) rfl (el_o rfl) rfl rfl rfl (by omega) ?_
        refine e_Ok.any rfl (eF_sub_any _ _) (fun z54 z54a z54b => ?_)
        refine e_Ok.ps1 (x := (1, 250)) (q := 241) 1 rfl ?_
        refine e_Ok.getf (z := w 250 16) rfl (el_o rfl) rfl rfl rfl (by omega) ?_
        refine e_Ok.ps1 (x := (1, 250)) (q := 245) 1 rfl ?_
        refine e_Ok.getf (z := w 250 14) rfl (el_o rfl) rfl rfl rfl (by omega) ?_
        refine e_Ok.any rfl (eF_sub_any _ _) (fun z55 z55a z55b => ?_)
        refine e_Ok.ps2 (x := (1, 250)) (y := (0, dx)) (q := 251) 2 rfl ?_
        refine e_Ok.getf (z := w 250 13) rfl (el_o rfl) rfl rfl rfl (by omega) ?_
        refine e_Ok.any rfl (eF_sub_any _ _) (fun z56 z56a z56b => ?_)
        refine e_Ok.ps2 (x := (1, 250)) (y := (0, dy)) (q := 258) 2 rfl ?_
        refine e_Ok.getf (z := w 250 14) rfl (el_o rfl) rfl rfl rfl (by omega) ?_
        refine e_Ok.any rfl (eF_sub_any _ _) (fun z57 z57a z57b => ?_)
        refine e_Ok.ps1 (x := (0, rr)) (q := 264) 1 rfl ?_
        refine e_Ok.callS rfl (e_dq hd rfl) rfl rfl (c_176 (by omega) (by omega) (by omega) (by omega) (by omega)) (fun r58 w59 h60 => ?_)
        obtain ⟨z62, rfl, rfl, q61r⟩ := h60
        refine e_Ok.nrm (q := 267) (st' := [(0, z62)]) rfl rfl ?_
        refine e_Ok.if1 rfl (fun h63 => ?_) (fun h63 => ?_)
        · replace h63 : (z62 : Int) ≠ 0 := h63
          refine e_Ok.sub kAlk (e_sub_of rfl ?_) hC324
          exact ⟨rfl, trivial⟩
        · replace h63 : (z62 : Int) = 0 := Classical.not_not.mp (show ¬ ((z62 : Int) ≠ 0) from h63)
          refine e_Ok.ps2 (x := (0, cx)) (y := (0, dx)) (q := 272) 2 rfl ?_
          refine e_Ok.any rfl (eF_sub_any _ _) (fun z64 z64a z64b => ?_)
          refine e_Ok.ps2 (x := (0, cy)) (y := (0, dy)) (q := 276) 2 rfl ?_
          refine e_Ok.any rfl (eF_sub_any _ _) (fun z65 z65a z65b => ?_)
          refine e_Ok.ps1 (x := (1, 250)) (q := 278) 1 rfl ?_
          refine e_Ok.getf (z := w 250 13) rfl (el_o rfl) rfl rfl rfl (by omega) ?_
          refine e_Ok.ps1 (x := (0, cx)) (q := 282) 1 rfl ?_
          refine e_Ok.any rfl (eF_sub_any _ _) (fun z66 z66a z66b => ?_)
          refine e_Ok.ps1 (x := (1, 250)) (q := 284) 1 rfl ?_
          refine e_Ok.getf (z := w 250 14) rfl (el_o rfl) rfl rfl rfl (by omega) ?_
          refine e_Ok.ps1 (x := (0, cy)) (q := 288) 1 rfl ?_
          refine e_Ok.any rfl (eF_sub_any _ _) (fun z67 z67a z67b => ?_)
          refine e_Ok.ps1 (x := (0, rr)) (q := 291) 1 rfl ?_
          refine e_Ok.callS rfl (e_dq hd rfl) rfl rfl (c_176 (by omega) (by omega) (by omega) (by omega) (by omega)) (fun r68 w69 h70 => ?_)
          obtain ⟨z72, rfl, rfl, q71r⟩ := h70
          refine e_Ok.nrm (q := 294) (st' := [(0, z72)]) rfl rfl ?_
          refine e_Ok.if1 rfl (fun h73 => ?_) (fun h73 => ?_)
          · replace h73 : (z72 : Int) ≠ 0 := h73
            refine e_Ok.sub kAlk (e_sub_of rfl ?_) hC324
            exact ⟨rfl, trivial⟩
          · replace h73 : (z72 : Int) = 0 := Classical.not_not.mp (show ¬ ((z72 : Int) ≠ 0) from h73)
            refine e_Ok.ps2 (x := (0, cx)) (y := (0, dx)) (q := 299) 2 rfl ?_
            refine e_Ok.any rfl (eF_sub_any _ _) (fun z74 z74a z74b => ?_)
            refine e_Ok.ps2 (x := (0, cy)) (y := (0, dy)) (q := 303) 2 rfl ?_
            refine e_Ok.any rfl (eF_sub_any _ _) (fun z75 z75a z75b => ?_)
            refine e_Ok.ps1 (x := (1, 250)) (q := 305) 1 rfl ?_
            refine e_Ok.getf (z := w 250 15) rfl (el_o rfl) rfl rfl rfl (by omega) ?_
            refine e_Ok.ps1 (x := (0, cx)) (q := 309) 1 rfl ?_
            refine e_Ok.any rfl (eF_sub_any _ _) (fun z76 z76a z76b => ?_)
            refine e_Ok.ps1 (x := (1, 250)) (q := 311) 1 rfl ?_
            refine e_Ok.getf (z := w 250 16) rfl (el_o rfl) rfl rfl rfl (by omega) ?_
            refine e_Ok.ps1 (x := (0, cy)) (q := 315) 1 rfl ?_
            refine e_Ok.any rfl (eF_sub_any _ _) (fun z77 z77a z77b => ?_)
            refine e_Ok.ps1 (x := (0, rr)) (q := 318) 1 rfl ?_
            refine e_Ok.callS rfl (e_dq hd rfl) rfl rfl (c_176 (by omega) (by omega) (by omega) (by omega) (by omega)) (fun r78 w79 h80 => ?_)
            obtain ⟨z82, rfl, rfl, q81r⟩ := h80
            refine e_Ok.nrm (q := 321) (st' := [(0, z82)]) rfl rfl ?_
            have hJ85 : ∀ m84 : Int, 0 ≤ m84 ∧ m84 ≤ 1 → e_Ok 20 elay kcode eI (d + 1) 175 (329, [(0, (1, 250)), (1, (0, cx)), (2, (0, cy)), (3, (0, dx)), (4, (0, dy)), (5, (0, rr))], [(0, m84)], w) (fun r w' => ∃ z : Int, r = [(0, z)] ∧ w = w' ∧ (0 ≤ z ∧ z ≤ 1)) := by
              intro m84 m84r
              refine e_Ok.retb rfl (by omega) ?_
              exact ⟨_, rfl, rfl, ⟨by omega, by omega⟩⟩
            refine e_Ok.if1 rfl (fun h83 => ?_) (fun h83 => ?_)
            · exact e_Ok.run 1 rfl (hJ85 0 (by omega))
            · exact e_Ok.run 2 rfl (hJ85 1 (by omega))
    have hC163 : e_Ok 20 elay kcode eI (d + 1) 175 (163, [(0, (1, 250)), (1, (0, cx)), (2, (0, cy)), (3, (0, dx)), (4, (0, dy)), (5, (0, rr)), (10, (4, x34)), (12, (4, x43))], [], w) (fun r w' => ∃ z : Int, r = [(0, z)] ∧ w = w' ∧ (0 ≤ z ∧ z ≤ 1)) := by
      refine e_Ok.run (t' := (166, [(0, (1, 250)), (1, (0, cx)), (2, (0, cy)), (3, (0, dx)), (4, (0, dy)), (5, (0, rr)), (10, (4, x34)), (12, (4, x43))], [(4, 0), (4, x34)], w)) 2 rfl ?_
      refine e_Ok.lcmp rfl (fun z86 z86a z86b z86c => ?_)
      refine e_Ok.if1 rfl (fun h87 => ?_) (fun h87 => ?_)
      · replace h87 : (z86 : Int) ≥ 0 := h87
        refine e_Ok.ps2 (x := (4, 0)) (y := (4, x34)) (q := 180) 2 rfl ?_
        refine e_Ok.lcmp rfl (fun z88 z88a z88b z88c => ?_)
        refine e_Ok.if1 rfl (fun h89 => ?_) (fun h89 => ?_)
        · replace h89 : (z88 : Int) ≤ 0 := h89
          refine e_Ok.sub kAlk (e_sub_of rfl ?_) hC193
          exact ⟨rfl, rfl, rfl, rfl, rfl, rfl, trivial⟩
        · replace h89 : (z88 : Int) > 0 := Int.not_le.mp (show ¬ ((z88 : Int) ≤ 0) from h89)
          refine e_Ok.ps2 (x := (4, 0)) (y := (4, x43)) (q := 187) 2 rfl ?_
          refine e_Ok.lcmp rfl (fun z90 z90a z90b z90c => ?_)
          refine e_Ok.if1 rfl (fun h91 => ?_) (fun h91 => ?_)
          · replace h91 : (z90 : Int) ≥ 0 := h91
            refine e_Ok.sub kAlk (e_sub_of rfl ?_) hC193
            exact ⟨rfl, rfl, rfl, rfl, rfl, rfl, trivial⟩
          · replace h91 : (z90 : Int) < 0 := Int.not_le.mp (show ¬ ((z90 : Int) ≥ 0) from h91)
            refine e_Ok.ps1 (x := (0, 1)) (q := 192) 1 rfl ?_
            refine e_Ok.rets rfl rfl ?_
            exact ⟨_, rfl, rfl, ⟨by omega, by omega⟩⟩
      · replace h87 : (z86 : Int) < 0 := Int.not_le.mp (show ¬ ((z86 : Int) ≥ 0) from h87)
        refine e_Ok.ps2 (x := (4, 0)) (y := (4, x43)) (q := 173) 2 rfl ?_
        refine e_Ok.lcmp rfl (fun z92 z92a z92b z92c => ?_)
        refine e_Ok.if1 rfl (fun h93 => ?_) (fun h93 => ?_)
        · replace h93 : (z92 : Int) > 0 := h93
          refine e_Ok.ps1 (x := (0, 1)) (q := 192) 1 rfl ?_
          refine e_Ok.rets rfl rfl ?_
          exact ⟨_, rfl, rfl, ⟨by omega, by omega⟩⟩
        · replace h93 : (z92 : Int) ≤ 0 := Int.not_lt.mp (show ¬ ((z92 : Int) > 0) from h93)
          refine e_Ok.ps2 (x := (4, 0)) (y := (4, x34)) (q := 180) 2 rfl ?_
          refine e_Ok.lcmp rfl (fun z94 z94a z94b z94c => ?_)
          refine e_Ok.if1 rfl (fun h95 => ?_) (fun h95 => ?_)
          · replace h95 : (z94 : Int) ≤ 0 := h95
            refine e_Ok.sub kAlk (e_sub_of rfl ?_) hC193
            exact ⟨rfl, rfl, rfl, rfl, rfl, rfl, trivial⟩
          · replace h95 : (z94 : Int) > 0 := Int.not_le.mp (show ¬ ((z94 : Int) ≤ 0) from h95)
            refine e_Ok.ps2 (x := (4, 0)) (y := (4, x43)) (q := 187) 2 rfl ?_
            refine e_Ok.lcmp rfl (fun z101 z101a z101b z101c => ?_)
            refine e_Ok.if1 rfl (fun h103 => ?_) (fun h103 => ?_)
            · replace h103 : (z101 : Int) ≥ 0 := h103
              refine e_Ok.sub kAlk (e_sub_of rfl ?_) hC193
              exact ⟨rfl, rfl, rfl, rfl, rfl, rfl, trivial⟩
            · replace h103 : (z101 : Int) < 0 := Int.not_le.mp (show ¬ ((z101 : Int) ≥ 0) from h103)
              refine e_Ok.ps1 (x := (0, 1)) (q := 192) 1 rfl ?_
              refine e_Ok.rets rfl rfl ?_
              exact ⟨_, rfl, rfl, ⟨by omega, by omega⟩⟩
    refine e_Ok.run (t' := (138, [(12, (4, x43)), (10, (4, x34)), (8, (4, x26)), (6, (4, x18)), (0, (1, 250)), (1, (0, cx)), (2, (0, cy)), (3, (0, dx)), (4, (0, dy)), (5, (0, rr))], [(4, 0), (4, x18)], w)) 2 rfl ?_
    refine e_Ok.lcmp rfl (fun z104 z104a z104b z104c => ?_)
    refine e_Ok.if1 rfl (fun h105 => ?_) (fun h105 => ?_)
    · replace h105 : (z104 : Int) ≥ 0 := h105
      refine e_Ok.ps2 (x := (4, 0)) (y := (4, x18)) (q := 152) 2 rfl ?_
      refine e_Ok.lcmp rfl (fun z106 z106a z106b z106c => ?_)
      refine e_Ok.if1 rfl (fun h107 => ?_) (fun h107 => ?_)
      · replace h107 : (z106 : Int) ≤ 0 := h107
        refine e_Ok.sub kAlk (e_sub_of rfl ?_) hC193
        exact ⟨rfl, rfl, rfl, rfl, rfl, rfl, trivial⟩
      · replace h107 : (z106 : Int) > 0 := Int.not_le.mp (show ¬ ((z106 : Int) ≤ 0) from h107)
        refine e_Ok.ps2 (x := (4, 0)) (y := (4, x26)) (q := 159) 2 rfl ?_
        refine e_Ok.lcmp rfl (fun z108 z108a z108b z108c => ?_)
        refine e_Ok.if1 rfl (fun h109 => ?_) (fun h109 => ?_)
        · replace h109 : (z108 : Int) ≥ 0 := h109
          refine e_Ok.sub kAlk (e_sub_of rfl ?_) hC193
          exact ⟨rfl, rfl, rfl, rfl, rfl, rfl, trivial⟩
        · replace h109 : (z108 : Int) < 0 := Int.not_le.mp (show ¬ ((z108 : Int) ≥ 0) from h109)
          refine e_Ok.sub kAlk (e_sub_of rfl ?_) hC163
          exact ⟨rfl, rfl, rfl, rfl, rfl, rfl, rfl, rfl, trivial⟩
    · replace h105 : (z104 : Int) < 0 := Int.not_le.mp (show ¬ ((z104 : Int) ≥ 0) from h105)
      refine e_Ok.ps2 (x := (4, 0)) (y := (4, x26)) (q := 145) 2 rfl ?_
      refine e_Ok.lcmp rfl (fun z110 z110a z110b z110c => ?_)
      refine e_Ok.if1 rfl (fun h111 => ?_) (fun h111 => ?_)
      · replace h111 : (z110 : Int) > 0 := h111
        refine e_Ok.sub kAlk (e_sub_of rfl ?_) hC163
        exact ⟨rfl, rfl, rfl, rfl, rfl, rfl, rfl, rfl, trivial⟩
      · replace h111 : (z110 : Int) ≤ 0 := Int.not_lt.mp (show ¬ ((z110 : Int) > 0) from h111)
        refine e_Ok.ps2 (x := (4, 0)) (y := (4, x18)) (q := 152) 2 rfl ?_
        refine e_Ok.lcmp rfl (fun z112 z112a z112b z112c => ?_)
        refine e_Ok.if1 rfl (fun h113 => ?_) (fun h113 => ?_)
        · replace h113 : (z112 : Int) ≤ 0 := h113
          refine e_Ok.sub kAlk (e_sub_of rfl ?_) hC193
          exact ⟨rfl, rfl, rfl, rfl, rfl, rfl, trivial⟩
        · replace h113 : (z112 : Int) > 0 := Int.not_le.mp (show ¬ ((z112 : Int) ≤ 0) from h113)
          refine e_Ok.ps2 (x := (4, 0)) (y := (4, x26)) (q := 159) 2 rfl ?_
          refine e_Ok.lcmp rfl (fun z114 z114a z114b z114c => ?_)
          refine e_Ok.if1 rfl (fun h115 => ?_) (fun h115 => ?_)
          · replace h115 : (z114 : Int) ≥ 0 := h115
            refine e_Ok.sub kAlk (e_sub_of rfl ?_) hC193
            exact ⟨rfl, rfl, rfl, rfl, rfl, rfl, trivial⟩
          · replace h115 : (z114 : Int) < 0 := Int.not_le.mp (show ¬ ((z114 : Int) ≥ 0) from h115)
            refine e_Ok.sub kAlk (e_sub_of rfl ?_) hC163
            exact ⟨rfl, rfl, rfl, rfl, rfl, rfl, rfl, rfl, trivial⟩
  · replace h6 : (z5 : Int) ≠ 0 := (show ¬ ((z5 : Int) = 0) from h6)
    refine e_Ok.ps1 (x := (0, 0)) (q := 15) 1 rfl ?_
    refine e_Ok.rets rfl rfl ?_
    exact ⟨_, rfl, rfl, ⟨by omega, by omega⟩⟩
theorem c_173 {d : Nat} (hd : 22 ≤ d) {w : eW} (hT : e_Has kTy w) {s rr : Int} (g_s : 0 ≤ s ∧ s ≤ 15) (g_rr : (-2147483648) ≤ rr ∧ rr ≤ 2147483647) (kl : e_kn w 250 13 16) : e_Ok 20 elay kcode eI d 173 (0, [(0, (1, 250)), (1, (0, s)), (2, (0, rr))], [], w) (fun r w' => ∃ z : Int, r = [(0, z)] ∧ w = w' ∧ (0 ≤ z ∧ z ≤ 1)) := by
  obtain ⟨d, rfl⟩ : ∃ e, d = e + 1 := ⟨d - 1, by omega⟩
  refine e_Ok.ps1 (x := (1, 250)) (q := 1) 1 rfl ?_
  refine e_Ok.getr (z := 251) rfl (el_o rfl) rfl rfl (e_Has.eq hT (kt_o rfl)) ⟨by decide, by decide⟩ ?_
  refine e_Ok.ps1 (x := (0, s)) (q := 5) 1 rfl ?_
  have h1 := (e_Has.get hT (c := 251) (k := s) (lo := (-2147483648)) (hi := 2147483647) (kt_o rfl) (by decide))
  refine e_Ok.ald (z := w 251 s) rfl (el_o rfl) rfl (by omega) rfl (e_bq h1 (by decide) (by decide)) ?_
  refine e_Ok.run (t' := (8, [(3, (0, w 251 s)), (0, (1, 250)), (1, (0, s)), (2, (0, rr))], [(1, 250)], w)) 2 rfl ?_
  refine e_Ok.getr (z := 252) rfl (el_o rfl) rfl rfl (e_Has.eq hT (kt_o rfl)) ⟨by decide, by decide⟩ ?_
  refine e_Ok.ps1 (x := (0, s)) (q := 12) 1 rfl ?_
  have h2 := (e_Has.get hT (c := 252) (k := s) (lo := (-2147483648)) (hi := 2147483647) (kt_o rfl) (by decide))
  refine e_Ok.ald (z := w 252 s) rfl (el_o rfl) rfl (by omega) rfl (e_bq h2 (by decide) (by decide)) ?_
  refine e_Ok.run (t' := (16, [(4, (0, w 252 s)), (3, (0, w 251 s)), (0, (1, 250)), (1, (0, s)), (2, (0, rr))], [(1, 250)], w)) 2 rfl ?_
  refine e_Ok.getr (z := 255) rfl (el_o rfl) rfl rfl (e_Has.eq hT (kt_o rfl)) ⟨by decide, by decide⟩ ?_
  refine e_Ok.ps1 (x := (0, s)) (q := 20) 1 rfl ?_
  have h3 := (e_Has.get hT (c := 255) (k := s) (lo := (-2147483648)) (hi := 2147483647) (kt_o rfl) (by decide))
  refine e_Ok.ald (z := w 255 s) rfl (el_o rfl) rfl (by omega) rfl (e_bq h3 (by decide) (by decide)) ?_
  refine e_Ok.ps1 (x := (0, (-1))) (q := 22) 1 rfl ?_
  refine e_Ok.if2 rfl (fun h4 => ?_) (fun h4 => ?_)
  · replace h4 : (w 255 s : Int) = (-1) := h4
    refine e_Ok.ps2 (x := (1, 250)) (y := (0, w 251 s)) (q := 46) 2 rfl ?_
    refine e_Ok.getr (z := 253) rfl (el_o rfl) rfl rfl (e_Has.eq hT (kt_o rfl)) ⟨by decide, by decide⟩ ?_
    refine e_Ok.ps1 (x := (0, s)) (q := 50) 1 rfl ?_
    have h5 := (e_Has.get hT (c := 253) (k := s) (lo := (-2147483648)) (hi := 2147483647) (kt_o rfl) (by decide))
    refine e_Ok.ald (z := w 253 s) rfl (el_o rfl) rfl (by omega) rfl (e_bq h5 (by decide) (by decide)) ?_
    refine e_Ok.any rfl (eF_add_any _ _) (fun z6 z6a z6b => ?_)
    refine e_Ok.run (t' := (57, [(5, (0, z6)), (4, (0, w 252 s)), (3, (0, w 251 s)), (0, (1, 250)), (1, (0, s)), (2, (0, rr))], [(1, 250), (0, w 252 s)], w)) 3 rfl ?_
    refine e_Ok.getr (z := 254) rfl (el_o rfl) rfl rfl (e_Has.eq hT (kt_o rfl)) ⟨by decide, by decide⟩ ?_
    refine e_Ok.ps1 (x := (0, s)) (q := 61) 1 rfl ?_
    have h7 := (e_Has.get hT (c := 254) (k := s) (lo := (-2147483648)) (hi := 2147483647) (kt_o rfl) (by decide))
    refine e_Ok.ald (z := w 254 s) rfl (el_o rfl) rfl (by omega) rfl (e_bq h7 (by decide) (by decide)) ?_
    refine e_Ok.any rfl (eF_add_any _ _) (fun z8 z8a z8b => ?_)
    refine e_Ok.run (t' := (74, [(6, (0, z8)), (5, (0, z6)), (4, (0, w 252 s)), (3, (0, w 251 s)), (0, (1, 250)), (1, (0, s)), (2, (0, rr))], [(0, rr), (0, z8), (0, z6), (0, w 252 s), (0, w 251 s), (1, 250)], w)) 7 rfl ?_
    refine e_Ok.callV rfl (e_dq hd rfl) rfl rfl rfl rfl (c_174 hT (by omega) (by omega) (by omega) (by omega) (by omega) kl) (fun r9 w10 h11 => ?_)
    obtain ⟨z13, rfl, rfl, q12r⟩ := h11
    refine e_Ok.nrm (q := 77) (st' := [(0, z13)]) rfl rfl ?_
    refine e_Ok.if1 rfl (fun h14 => ?_) (fun h14 => ?_)
    · replace h14 : (z13 : Int) = 0 := h14
      have hC111 : e_Ok 20 elay kcode eI (d + 1) 173 (111, [(0, (1, 250)), (2, (0, rr)), (3, (0, w 251 s)), (4, (0, w 252 s)), (5, (0, z6)), (6, (0, z8))], [], w) (fun r w' => ∃ z : Int, r = [(0, z)] ∧ w = w' ∧ (0 ≤ z ∧ z ≤ 1)) := by
        refine e_Ok.run (t' := (120, [(0, (1, 250)), (2, (0, rr)), (3, (0, w 251 s)), (4, (0, w 252 s)), (5, (0, z6)), (6, (0, z8))], [(0, rr), (0, w 252 s), (0, z6), (0, w 252 s), (0, w 251 s), (1, 250)], w)) 6 rfl ?_
        refine e_Ok.callV rfl (e_dq hd rfl) rfl rfl rfl rfl (c_175 (e_dq hd rfl) hT (by omega) (by omega) (by omega) (by omega) (by omega) kl) (fun r15 w16 h17 => ?_)
        obtain ⟨z19, rfl, rfl, q18r⟩ := h17
        refine e_Ok.nrm (q := 123) (st' := [(0, z19)]) rfl rfl ?_
        refine e_Ok.if1 rfl (fun h20 => ?_) (fun h20 => ?_)
        · replace h20 : (z19 : Int) ≠ 0 := h20
          refine e_Ok.ps1 (x := (0, 1)) (q := 176) 2 rfl ?_
          refine e_Ok.rets rfl rfl ?_
          exact ⟨_, rfl, rfl, ⟨by omega, by omega⟩⟩
        · replace h20 : (z19 : Int) = 0 := Classical.not_not.mp (show ¬ ((z19 : Int) ≠ 0) from h20)
          refine e_Ok.run (t' := (135, [(0, (1, 250)), (2, (0, rr)), (3, (0, w 251 s)), (4, (0, w 252 s)), (5, (0, z6)), (6, (0, z8))], [(0, rr), (0, z8), (0, z6), (0, z8), (0, w 251 s), (1, 250)], w)) 6 rfl ?_
          refine e_Ok.callV rfl (e_dq hd rfl) rfl rfl rfl rfl (c_175 (e_dq hd rfl) hT (by omega) (by omega) (by omega) (by omega) (by omega) kl) (fun r21 w22 h23 => ?_)
          obtain ⟨z25, rfl, rfl, q24r⟩ := h23
          refine e_Ok.nrm (q := 138) (st' := [(0, z25)]) rfl rfl ?_
          refine e_Ok.if1 rfl (fun h26 => ?_) (fun h26 => ?_)
          · replace h26 : (z25 : Int) ≠ 0 := h26
            refine e_Ok.ps1 (x := (0, 1)) (q := 176) 2 rfl ?_
            refine e_Ok.rets rfl rfl ?_
            exact ⟨_, rfl, rfl, ⟨by omega, by omega⟩⟩
          · replace h26 : (z25 : Int) = 0 := Classical.not_not.mp (show ¬ ((z25 : Int) ≠ 0) from h26)
            refine e_Ok.run (t' := (149, [(0, (1, 250)), (2, (0, rr)), (3, (0, w 251 s)), (4, (0, w 252 s)), (5, (0, z6)), (6, (0, z8))], [(0, rr), (0, z8), (0, w 251 s), (0, w 252 s), (0, w 251 s), (1, 250)], w)) 6 rfl ?_
            refine e_Ok.callV rfl (e_dq hd rfl) rfl rfl rfl rfl (c_175 (e_dq hd rfl) hT (by omega) (by omega) (by omega) (by omega) (by omega) kl) (fun r27 w28 h29 => ?_)
            obtain ⟨z31, rfl, rfl, q30r⟩ := h29
            refine e_Ok.nrm (q := 152) (st' := [(0, z31)]) rfl rfl ?_
            refine e_Ok.if1 rfl (fun h32 => ?_) (fun h32 => ?_)
            · replace h32 : (z31 : Int) ≠ 0 := h32
              refine e_Ok.ps1 (x := (0, 1)) (q := 176) 2 rfl ?_
              refine e_Ok.rets rfl rfl ?_
              exact ⟨_, rfl, rfl, ⟨by omega, by omega⟩⟩
            · replace h32 : (z31 : Int) = 0 := Classical.not_not.mp (show ¬ ((z31 : Int) ≠ 0) from h32)
              refine e_Ok.run (t' := (165, [(0, (1, 250)), (2, (0, rr)), (3, (0, w 251 s)), (4, (0, w 252 s)), (5, (0, z6)), (6, (0, z8))], [(0, rr), (0, z8), (0, z6), (0, w 252 s), (0, z6), (1, 250)], w)) 6 rfl ?_
              refine e_Ok.callV rfl (e_dq hd rfl) rfl rfl rfl rfl (c_175 (e_dq hd rfl) hT (by omega) (by omega) (by omega) (by omega) (by omega) kl) (fun r33 w34 h35 => ?_)
              obtain ⟨z37, rfl, rfl, q36r⟩ := h35
              refine e_Ok.nrm (q := 168) (st' := [(0, z37)]) rfl rfl ?_
              have hJ41 : ∀ m40 : Int, 0 ≤ m40 ∧ m40 ≤ 1 → e_Ok 20 elay kcode eI (d + 1) 173 (176, [(0, (1, 250)), (2, (0, rr)), (3, (0, w 251 s)), (4, (0, w 252 s)), (5, (0, z6)), (6, (0, z8))], [(0, m40)], w) (fun r w' => ∃ z : Int, r = [(0, z)] ∧ w = w' ∧ (0 ≤ z ∧ z ≤ 1)) := by
                intro m40 m40r
                refine e_Ok.retb rfl (by omega) ?_
                exact ⟨_, rfl, rfl, ⟨by omega, by omega⟩⟩
              refine e_Ok.if1 rfl (fun h38 => ?_) (fun h38 => ?_)
              · exact e_Ok.run 1 rfl (hJ41 0 (by omega))
              · exact e_Ok.run 2 rfl (hJ41 1 (by omega))
      refine e_Ok.run (t' := (83, [(6, (0, z8)), (5, (0, z6)), (4, (0, w 252 s)), (3, (0, w 251 s)), (0, (1, 250)), (1, (0, s)), (2, (0, rr))], [(1, 250)], w)) 1 rfl ?_
      have h42 := (kl 13 (by omega) (by omega))
      refine e_Ok.getf (z := w 250 13) rfl (el_o rfl) rfl rfl rfl (by omega) ?_
      refine e_Ok.ps2 (x := (0, z6)) (y := (0, w 251 s)) (q := 89) 2 rfl ?_
      refine e_Ok.callS rfl (e_dq hd rfl) rfl rfl (c_242 (by omega) (by omega) (by omega)) (fun r43 w44 h45 => ?_)
      obtain ⟨z46, rfl, rfl, q47⟩ := h45
      obtain ⟨rfl, q47⟩ | ⟨rfl, q47⟩ := q47
      · refine e_Ok.nrm (q := 92) (st' := [(0, 1)]) rfl rfl ?_
        refine e_Ok.if1 rfl (fun h48 => ?_) (fun h48 => ?_)
        · replace h48 : (1 : Int) = 0 := h48
          exfalso; omega
        · replace h48 : (1 : Int) ≠ 0 := (show ¬ ((1 : Int) = 0) from h48)
          refine e_Ok.ps1 (x := (1, 250)) (q := 96) 1 rfl ?_
          have h49 := (kl 14 (by omega) (by omega))
          refine e_Ok.getf (z := w 250 14) rfl (el_o rfl) rfl rfl rfl (by omega) ?_
          refine e_Ok.ps2 (x := (0, z8)) (y := (0, w 252 s)) (q := 103) 2 rfl ?_
          refine e_Ok.callS rfl (e_dq hd rfl) rfl rfl (c_242 (by omega) (by omega) (by omega)) (fun r50 w51 h52 => ?_)
          obtain ⟨z53, rfl, rfl, q54⟩ := h52
          obtain ⟨rfl, q54⟩ | ⟨rfl, q54⟩ := q54
          · refine e_Ok.nrm (q := 106) (st' := [(0, 1)]) rfl rfl ?_
            refine e_Ok.if1 rfl (fun h55 => ?_) (fun h55 => ?_)
            · replace h55 : (1 : Int) = 0 := h55
              exfalso; omega
            · replace h55 : (1 : Int) ≠ 0 := (show ¬ ((1 : Int) = 0) from h55)
              refine e_Ok.ps1 (x := (0, 1)) (q := 110) 1 rfl ?_
              refine e_Ok.rets rfl rfl ?_
              exact ⟨_, rfl, rfl, ⟨by omega, by omega⟩⟩
          · refine e_Ok.nrm (q := 106) (st' := [(0, 0)]) rfl rfl ?_
            refine e_Ok.if1 rfl (fun h56 => ?_) (fun h56 => ?_)
            · replace h56 : (0 : Int) = 0 := h56
              refine e_Ok.sub kAlk (e_sub_of rfl ?_) hC111
              exact ⟨rfl, rfl, rfl, rfl, rfl, rfl, trivial⟩
            · replace h56 : (0 : Int) ≠ 0 := (show ¬ ((0 : Int) = 0) from h56)
              exfalso; omega
      · refine e_Ok.nrm (q := 92) (st' := [(0, 0)]) rfl rfl ?_
        refine e_Ok.if1 rfl (fun h57 => ?_) (fun h57 => ?_)
        · replace h57 : (0 : Int) = 0 := h57
          refine e_Ok.sub kAlk (e_sub_of rfl ?_) hC111
          exact ⟨rfl, rfl, rfl, rfl, rfl, rfl, trivial⟩
        · replace h57 : (0 : Int) ≠ 0 := (show ¬ ((0 : Int) = 0) from h57)
          exfalso; omega
    · replace h14 : (z13 : Int) ≠ 0 := (show ¬ ((z13 : Int) = 0) from h14)
      refine e_Ok.ps1 (x := (0, 0)) (q := 81) 1 rfl ?_
      refine e_Ok.rets rfl rfl ?_
      exact ⟨_, rfl, rfl, ⟨by omega, by omega⟩⟩
  · replace h4 : (w 255 s : Int) ≠ (-1) := (show ¬ ((w 255 s : Int) = (-1)) from h4)
    refine e_Ok.run (t' := (34, [(4, (0, w 252 s)), (3, (0, w 251 s)), (0, (1, 250)), (1, (0, s)), (2, (0, rr))], [(1, 250), (0, rr), (0, w 252 s), (0, w 251 s), (0, w 252 s), (0, w 251 s), (1, 250)], w)) 7 rfl ?_
    refine e_Ok.getr (z := 255) rfl (el_o rfl) rfl rfl (e_Has.eq hT (kt_o rfl)) ⟨by decide, by decide⟩ ?_
    refine e_Ok.ps1 (x := (0, s)) (q := 38) 1 rfl ?_
    refine e_Ok.ald (z := w 255 s) rfl (el_o rfl) rfl (by omega) rfl (by omega) ?_
    refine e_Ok.any rfl (eF_add_any _ _) (fun z58 z58a z58b => ?_)
    refine e_Ok.callV rfl (e_dq hd rfl) rfl rfl rfl rfl (c_175 (e_dq hd rfl) hT (by omega) (by omega) (by omega) (by omega) (by omega) kl) (fun r59 w60 h61 => ?_)
    obtain ⟨z63, rfl, rfl, q62r⟩ := h61
    refine e_Ok.nrm (q := 43) (st' := [(0, z63)]) rfl rfl ?_
    refine e_Ok.retb rfl (by omega) ?_
    exact ⟨_, rfl, rfl, ⟨by omega, by omega⟩⟩
theorem c_7 {d : Nat} {w : eW} (hT : e_Has kTy w) {a : Int} (g_a : 0 ≤ a ∧ a ≤ 3) : e_Ok 20 elay kcode eI d 7 (0, [(0, (1, 17 * a + 86))], [], w) (fun r w' => ∃ z : Int, r = [(0, z)] ∧ w = w' ∧ (0 ≤ z ∧ z ≤ 7) ∧ z ≤ w (17 * a + 86) 8 + 1) := by
  refine e_Ok.ps1 (x := (1, 17 * a + 86)) (q := 1) 1 rfl ?_
  have h1 := (e_Has.get hT (c := 17 * a + 86) (k := 14) (lo := (-1)) (hi := 31) (kA_14 (a := a) rfl g_a) (by decide))
  refine e_Ok.getf (z := w (17 * a + 86) 14) rfl (lA0 (a := a) rfl g_a) rfl rfl rfl (e_bq h1 (by decide) (by decide)) ?_
  refine e_Ok.if1 rfl (fun h2 => ?_) (fun h2 => ?_)
  · replace h2 : (w (17 * a + 86) 14 : Int) ≥ 0 := h2
    refine e_Ok.ps1 (x := (1, 17 * a + 86)) (q := 15) 1 rfl ?_
    have h3 := (e_Has.get hT (c := 17 * a + 86) (k := 8) (lo := 0) (hi := 6) (kA_8 (a := a) rfl g_a) (by decide))
    refine e_Ok.getf (z := w (17 * a + 86) 8) rfl (lA0 (a := a) rfl g_a) rfl rfl rfl (e_bq h3 (by decide) (by decide)) ?_
    refine e_Ok.ps1 (x := (0, 1)) (q := 19) 1 rfl ?_
    refine e_Ok.add (z := w (17 * a + 86) 8 + 1) rfl rfl (by omega) ?_
    refine e_Ok.rets rfl rfl ?_
    exact ⟨_, rfl, rfl, ⟨by omega, by omega⟩, by omega⟩
  · replace h2 : (w (17 * a + 86) 14 : Int) < 0 := Int.not_le.mp (show ¬ ((w (17 * a + 86) 14 : Int) ≥ 0) from h2)
    refine e_Ok.ps1 (x := (1, 17 * a + 86)) (q := 8) 1 rfl ?_
    have h4 := (e_Has.get hT (c := 17 * a + 86) (k := 8) (lo := 0) (hi := 6) (kA_8 (a := a) rfl g_a) (by decide))
    refine e_Ok.getf (z := w (17 * a + 86) 8) rfl (lA0 (a := a) rfl g_a) rfl rfl rfl (e_bq h4 (by decide) (by decide)) ?_
    refine e_Ok.ps0 (q := 20) 1 rfl ?_
    refine e_Ok.rets rfl rfl ?_
    exact ⟨_, rfl, rfl, ⟨by omega, by omega⟩, by omega⟩
theorem c_8 {d : Nat} {w : eW} (hT : e_Has kTy w) {a i : Int} (g_a : 0 ≤ a ∧ a ≤ 3) (g_i : 0 ≤ i ∧ i ≤ 7) : e_Ok 20 elay kcode eI d 8 (0, [(0, (1, 17 * a + 86)), (1, (0, i))], [], w) (fun r w' => ∃ z : Int, r = [(0, z)] ∧ w = w' ∧ ((-2147483648) ≤ z ∧ z ≤ 2147483647)) := by
  refine e_Ok.ps2 (x := (1, 17 * a + 86)) (y := (0, i)) (q := 2) 2 rfl ?_
  have h1 := (e_Has.get hT (c := 17 * a + 86) (k := 8) (lo := 0) (hi := 6) (kA_8 (a := a) rfl g_a) (by decide))
  refine e_Ok.getf (z := w (17 * a + 86) 8) rfl (lA0 (a := a) rfl g_a) rfl rfl rfl (e_bq h1 (by decide) (by decide)) ?_
  refine e_Ok.if2 rfl (fun h2 => ?_) (fun h2 => ?_)
  · replace h2 : (i : Int) ≥ w (17 * a + 86) 8 := h2
    refine e_Ok.ps1 (x := (1, 17 * a + 86)) (q := 21) 1 rfl ?_
    have h3 := (e_Has.get hT (c := 17 * a + 86) (k := 15) (lo := (-2147483648)) (hi := 2147483647) (kA_15 (a := a) rfl g_a) (by decide))
    refine e_Ok.getf (z := w (17 * a + 86) 15) rfl (lA0 (a := a) rfl g_a) rfl rfl rfl (e_bq h3 (by decide) (by decide)) ?_
    refine e_Ok.rets rfl rfl ?_
    exact ⟨_, rfl, rfl, ⟨by omega, by omega⟩⟩
  · replace h2 : (i : Int) < w (17 * a + 86) 8 := Int.not_le.mp (show ¬ ((i : Int) ≥ w (17 * a + 86) 8) from h2)
    refine e_Ok.ps1 (x := (1, 17 * a + 86)) (q := 9) 1 rfl ?_
    refine e_Ok.getr (z := 17 * a + 87) rfl (lA0 (a := a) rfl g_a) rfl rfl (Eq.trans (e_Has.eq hT (kA_0 (a := a) rfl g_a)) (by omega)) (by omega) ?_
    refine e_Ok.ps1 (x := (0, i)) (q := 13) 1 rfl ?_
    refine e_Ok.aald (z := 17 * a + i + 97) rfl (lA1 (a := a) rfl g_a) rfl (by omega) (Eq.trans (e_Has.eq hT (kA87 (a := a) rfl g_a (by omega))) (by omega)) (by omega) ?_
    have h4 := (e_Has.get hT (c := 17 * a + i + 97) (k := 4) (lo := (-2147483648)) (hi := 2147483647) (kJ_4 (a := a) (j := i) (by omega) (by omega) (by omega)) (by decide))
    refine e_Ok.getf (z := w (17 * a + i + 97) 4) rfl (lJ (a := a) (j := i) (by omega) (by omega) (by omega)) rfl rfl rfl (e_bq h4 (by decide) (by decide)) ?_
    refine e_Ok.ps0 (q := 24) 1 rfl ?_
    refine e_Ok.rets rfl rfl ?_
    exact ⟨_, rfl, rfl, ⟨by omega, by omega⟩⟩
theorem c_6 {d : Nat} {w : eW} (hT : e_Has kTy w) {a i s : Int} (g_a : 0 ≤ a ∧ a ≤ 3) (g_i : 0 ≤ i ∧ i ≤ 6) (g_s : (-2147483648) ≤ s ∧ s ≤ 2147483647) : e_Ok 20 elay kcode eI d 6 (0, [(0, (1, 17 * a + 86)), (1, (0, i)), (2, (0, s))], [], w) (fun r w' => ∃ z : Int, r = [(0, z)] ∧ w = w' ∧ (0 ≤ z ∧ z ≤ 1)) := by
  refine e_Ok.ps1 (x := (1, 17 * a + 86)) (q := 1) 1 rfl ?_
  refine e_Ok.getr (z := 17 * a + 92) rfl (lA0 (a := a) rfl g_a) rfl rfl (Eq.trans (e_Has.eq hT (kA_5 (a := a) rfl g_a)) (by omega)) (by omega) ?_
  refine e_Ok.ps1 (x := (0, i)) (q := 5) 1 rfl ?_
  have h1 := (e_Has.get hT (c := 17 * a + 92) (k := i) (lo := (-2147483648)) (hi := 2147483647) (kA92 (a := a) _ rfl g_a) (by decide))
  refine e_Ok.ald (z := w (17 * a + 92) i) rfl (lA6 (a := a) rfl g_a) rfl (by omega) rfl (e_bq h1 (by decide) (by decide)) ?_
  refine e_Ok.ps1 (x := (0, s)) (q := 7) 1 rfl ?_
  refine e_Ok.any rfl (eB_any _ _) (fun z2 z2a z2b => ?_)
  refine e_Ok.ps1 (x := (0, 1)) (q := 9) 1 rfl ?_
  refine e_Ok.andm 1 1 rfl (by decide) (fun z3 hz3 => ?_)
  replace hz3 : 0 ≤ z3 ∧ z3 ≤ 1 := by omega
  have hJ6 : ∀ m5 : Int, 0 ≤ m5 ∧ m5 ≤ 1 → e_Ok 20 elay kcode eI d 6 (18, [(0, (1, 17 * a + 86)), (1, (0, i)), (2, (0, s))], [(0, m5)], w) (fun r w' => ∃ z : Int, r = [(0, z)] ∧ w = w' ∧ (0 ≤ z ∧ z ≤ 1)) := by
    intro m5 m5r
    refine e_Ok.retb rfl (by omega) ?_
    exact ⟨_, rfl, rfl, ⟨by omega, by omega⟩⟩
  refine e_Ok.if1 rfl (fun h4 => ?_) (fun h4 => ?_)
  · exact e_Ok.run 1 rfl (hJ6 0 (by omega))
  · exact e_Ok.run 2 rfl (hJ6 1 (by omega))
theorem c_9 {d : Nat} {w : eW} (hT : e_Has kTy w) {a : Int} (g_a : 0 ≤ a ∧ a ≤ 3) : e_Ok 20 elay kcode eI d 9 (0, [(0, (1, 17 * a + 86))], [], w) (fun r w' => ∃ z : Int, r = [(0, z)] ∧ w = w' ∧ (0 ≤ z ∧ z ≤ 1)) := by
  refine e_Ok.ps1 (x := (1, 17 * a + 86)) (q := 1) 1 rfl ?_
  have h1 := (e_Has.get hT (c := 17 * a + 86) (k := 17) (lo := (-1)) (hi := 59) (kA_17 (a := a) rfl g_a) (by decide))
  refine e_Ok.getf (z := w (17 * a + 86) 17) rfl (lA0 (a := a) rfl g_a) rfl rfl rfl (e_bq h1 (by decide) (by decide)) ?_
  refine e_Ok.if1 rfl (fun h2 => ?_) (fun h2 => ?_)
  · replace h2 : (w (17 * a + 86) 17 : Int) < 0 := h2
    refine e_Ok.ps1 (x := (0, 0)) (q := 19) 1 rfl ?_
    refine e_Ok.rets rfl rfl ?_
    exact ⟨_, rfl, rfl, ⟨by omega, by omega⟩⟩
  · replace h2 : (w (17 * a + 86) 17 : Int) ≥ 0 := Int.not_lt.mp (show ¬ ((w (17 * a + 86) 17 : Int) < 0) from h2)
    refine e_Ok.ps1 (x := (1, 17 * a + 86)) (q := 8) 1 rfl ?_
    have h3 := (e_Has.get hT (c := 17 * a + 86) (k := 19) (lo := (-2147483648)) (hi := 2147483647) (kA_19 (a := a) rfl g_a) (by decide))
    refine e_Ok.getf (z := w (17 * a + 86) 19) rfl (lA0 (a := a) rfl g_a) rfl rfl rfl (e_bq h3 (by decide) (by decide)) ?_
    refine e_Ok.if1 rfl (fun h4 => ?_) (fun h4 => ?_)
    · replace h4 : (w (17 * a + 86) 19 : Int) ≠ 0 := h4
      refine e_Ok.ps1 (x := (0, 0)) (q := 19) 1 rfl ?_
      refine e_Ok.rets rfl rfl ?_
      exact ⟨_, rfl, rfl, ⟨by omega, by omega⟩⟩
    · replace h4 : (w (17 * a + 86) 19 : Int) = 0 := Classical.not_not.mp (show ¬ ((w (17 * a + 86) 19 : Int) ≠ 0) from h4)
      refine e_Ok.ps1 (x := (0, 1)) (q := 19) 2 rfl ?_
      refine e_Ok.rets rfl rfl ?_
      exact ⟨_, rfl, rfl, ⟨by omega, by omega⟩⟩
theorem c_172 {d : Nat} (hd : 22 ≤ d) {w : eW} (hT : e_Has kTy w) {a f rr : Int} (g_a : 0 ≤ a ∧ a ≤ 3) (g_f : 0 ≤ f ∧ f ≤ 9) (g_rr : (-2147483648) ≤ rr ∧ rr ≤ 2147483647) (kl : e_kn w 250 13 16) (kx : aK w a) : e_Ok 20 elay kcode eI d 172 (0, [(0, (1, 250)), (1, (1, 17 * a + 86)), (2, (0, f)), (3, (0, rr))], [], w) (fun r w' => ∃ z : Int, r = [(0, z)] ∧ w = w' ∧ (0 ≤ z ∧ z ≤ 1)) := by
  obtain ⟨d, rfl⟩ : ∃ e, d = e + 1 := ⟨d - 1, by omega⟩
  refine e_Ok.run (t' := (3, [(4, (0, f)), (0, (1, 250)), (1, (1, 17 * a + 86)), (2, (0, f)), (3, (0, rr))], [], w)) 2 rfl ?_
  have hL1 : ∀ (nn : Nat) (y4 : Int), 0 ≤ y4 ∧ y4 ≤ 9 → 10 - y4 < nn → e_Ok 20 elay kcode eI (d + 1) 172 (3, [(0, (1, 250)), (1, (1, 17 * a + 86)), (2, (0, f)), (3, (0, rr)), (4, (0, y4))], [], w) (fun r w' => ∃ z : Int, r = [(0, z)] ∧ w = w' ∧ (0 ≤ z ∧ z ≤ 1)) := by
    intro nn
    induction nn with
    | zero => intro y4 hj hm; obtain j3 := hj; exfalso; omega
    | succ nn ih2 =>
      intro y4 hj hm
      obtain j3 := hj
      refine e_Ok.run (t' := (6, [(0, (1, 250)), (1, (1, 17 * a + 86)), (2, (0, f)), (3, (0, rr)), (4, (0, y4))], [(1, 17 * a + 86), (0, y4)], w)) 2 rfl ?_
      refine e_Ok.callV rfl (e_dq hd rfl) rfl (lA0 (a := a) rfl g_a) rfl rfl (c_7 (a := a) hT (by omega)) (fun r4 w5 h6 => ?_)
      obtain ⟨z8, rfl, rfl, q7r, q7x⟩ := h6
      replace q7x : z8 ≤ w (17 * a + 86) 8 + 1 := q7x
      refine e_Ok.nrm (q := 9) (st' := [(0, z8), (0, y4)]) rfl rfl ?_
      refine e_Ok.if2 rfl (fun h9 => ?_) (fun h9 => ?_)
      · replace h9 : (y4 : Int) ≥ z8 := h9
        refine e_Ok.ps1 (x := (0, 0)) (q := 72) 1 rfl ?_
        refine e_Ok.rets rfl rfl ?_
        exact ⟨_, rfl, rfl, ⟨by omega, by omega⟩⟩
      · replace h9 : (y4 : Int) < z8 := Int.not_le.mp (show ¬ ((y4 : Int) ≥ z8) from h9)
        refine e_Ok.ps3 (x := (0, y4)) (y := (1, 17 * a + 86)) (z := (0, rr)) (q := 16) 3 rfl ?_
        refine e_Ok.callV rfl (e_dq hd rfl) rfl (lA0 (a := a) rfl g_a) rfl rfl (c_8 (a := a) hT (by omega) (by omega)) (fun r10 w11 h12 => ?_)
        obtain ⟨z14, rfl, rfl, q13r⟩ := h12
        refine e_Ok.nrm (q := 19) (st' := [(0, z14), (0, rr)]) rfl rfl ?_
        refine e_Ok.any rfl (eF_add_any _ _) (fun z15 z15a z15b => ?_)
        refine e_Ok.run (t' := (24, [(5, (0, z15)), (0, (1, 250)), (1, (1, 17 * a + 86)), (2, (0, f)), (3, (0, rr)), (4, (0, y4))], [(1, 17 * a + 86), (1, 250)], w)) 3 rfl ?_
        refine e_Ok.getr (z := 17 * a + 88) rfl (lA0 (a := a) rfl g_a) rfl rfl (Eq.trans (e_Has.eq hT (kA_1 (a := a) rfl g_a)) (by omega)) (by omega) ?_
        refine e_Ok.ps1 (x := (0, y4)) (q := 29) 1 rfl ?_
        have h16 := (kx.1 y4 (by omega) (by omega))
        refine e_Ok.ald (z := w (17 * a + 88) y4) rfl (lA2 (a := a) rfl g_a) rfl (by omega) rfl (by omega) ?_
        refine e_Ok.ps1 (x := (1, 17 * a + 86)) (q := 31) 1 rfl ?_
        refine e_Ok.getr (z := 17 * a + 89) rfl (lA0 (a := a) rfl g_a) rfl rfl (Eq.trans (e_Has.eq hT (kA_2 (a := a) rfl g_a)) (by omega)) (by omega) ?_
        refine e_Ok.ps1 (x := (0, y4)) (q := 36) 1 rfl ?_
        have h17 := (kx.2 y4 (by omega) (by omega))
        refine e_Ok.ald (z := w (17 * a + 89) y4) rfl (lA3 (a := a) rfl g_a) rfl (by omega) rfl (by omega) ?_
        refine e_Ok.ps1 (x := (1, 17 * a + 86)) (q := 38) 1 rfl ?_
        refine e_Ok.getr (z := 17 * a + 88) rfl (lA0 (a := a) rfl g_a) rfl rfl (Eq.trans (e_Has.eq hT (kA_1 (a := a) rfl g_a)) (by omega)) (by omega) ?_
        refine e_Ok.ps2 (x := (0, 1)) (y := (0, y4)) (q := 44) 2 rfl ?_
        refine e_Ok.add (z := y4 + 1) rfl rfl (by omega) ?_
        have h18 := (kx.1 (y4 + 1) (by omega) (by omega))
        refine e_Ok.ald (z := w (17 * a + 88) (y4 + 1)) rfl (lA2 (a := a) rfl g_a) rfl (by omega) rfl (by omega) ?_
        refine e_Ok.ps1 (x := (1, 17 * a + 86)) (q := 47) 1 rfl ?_
        refine e_Ok.getr (z := 17 * a + 89) rfl (lA0 (a := a) rfl g_a) rfl rfl (Eq.trans (e_Has.eq hT (kA_2 (a := a) rfl g_a)) (by omega)) (by omega) ?_
        refine e_Ok.ps2 (x := (0, 1)) (y := (0, y4)) (q := 53) 2 rfl ?_
        refine e_Ok.add (z := y4 + 1) rfl rfl (by omega) ?_
        have h19 := (kx.2 (y4 + 1) (by omega) (by omega))
        refine e_Ok.ald (z := w (17 * a + 89) (y4 + 1)) rfl (lA3 (a := a) rfl g_a) rfl (by omega) rfl (by omega) ?_
        refine e_Ok.ps1 (x := (0, z15)) (q := 57) 1 rfl ?_
        refine e_Ok.callV rfl (e_dq hd rfl) rfl rfl rfl rfl (c_175 (e_dq hd rfl) hT (by omega) (by omega) (by omega) (by omega) (by omega) kl) (fun r20 w21 h22 => ?_)
        obtain ⟨z24, rfl, rfl, q23r⟩ := h22
        refine e_Ok.nrm (q := 60) (st' := [(0, z24)]) rfl rfl ?_
        refine e_Ok.if1 rfl (fun h25 => ?_) (fun h25 => ?_)
        · replace h25 : (z24 : Int) = 0 := h25
          refine e_Ok.inc (z := y4 + 1) rfl rfl (by first | with_reducible rfl | omega) (by omega) ?_
          show e_Ok 20 elay kcode eI (d + 1) 172 (68, [(4, (0, y4 + 1)), (5, (0, z15)), (0, (1, 250)), (1, (1, 17 * a + 86)), (2, (0, f)), (3, (0, rr))], [], w) _
          refine e_Ok.ps0 (q := 3) 1 rfl ?_
          refine e_Ok.sub kAlk (e_sub_of rfl ?_) (ih2 (y4 + 1) (by omega) (by omega))
          exact ⟨rfl, rfl, rfl, rfl, rfl, trivial⟩
        · replace h25 : (z24 : Int) ≠ 0 := (show ¬ ((z24 : Int) = 0) from h25)
          refine e_Ok.ps1 (x := (0, 1)) (q := 64) 1 rfl ?_
          refine e_Ok.rets rfl rfl ?_
          exact ⟨_, rfl, rfl, ⟨by omega, by omega⟩⟩
  refine e_Ok.sub kAlk (e_sub_of rfl ?_) (hL1 (10 + 1 : Int).toNat f (by omega) (by omega))
  exact ⟨rfl, rfl, rfl, rfl, rfl, trivial⟩
theorem no_c1_0 {a : Int} (ha : 0 ≤ a ∧ a ≤ 3) : ¬ kTc (17 * a + 86) 8 := by unfold kTc; omega
theorem no_c1_1 {a : Int} (ha : 0 ≤ a ∧ a ≤ 3) : ¬ kTc (17 * a + 86) 1 := by unfold kTc; omega
theorem no_c1_2 {a : Int} (ha : 0 ≤ a ∧ a ≤ 3) : ¬ kTc (17 * a + 86) 2 := by unfold kTc; omega
theorem no_c1_3 : ¬ kTc 250 0 := by unfold kTc; omega
theorem no_c1_4 {k : Int} : ¬ kTc 9 k := by unfold kTc; omega
theorem c_171 {d : Nat} (hd : 23 ≤ d) {w : eW} (hT : e_Has kTy w) {n a o m : Int} (g_n : 0 ≤ n ∧ n ≤ 4) (g_a : 0 ≤ a ∧ a ≤ 3) (g_o : 0 ≤ o ∧ o ≤ 4) (g_m : (-2147483648) ≤ m ∧ m ≤ 2147483647) (ka : ∀ b, 0 ≤ b → b ≤ 3 → aK w b) : e_Ok 20 elay kcode eI d 171 (0, [(0, (1, 250)), (1, (1, 9)), (2, (0, n)), (3, (0, a)), (4, (0, o)), (5, (0, m))], [], w) (fun r w' => ∃ z : Int, r = [(0, z)] ∧ e_fr kTc w w' ∧ e_Has kTy w' ∧ (0 ≤ z ∧ z ≤ 1)) := by
  obtain ⟨d, rfl⟩ : ∃ e, d = e + 1 := ⟨d - 1, by omega⟩
  have kx := ka a (by omega) (by omega)
  refine e_Ok.ps2 (x := (0, a)) (y := (1, 9)) (q := 2) 2 rfl ?_
  refine e_Ok.aald (z := 17 * a + 86) rfl (el_o rfl) rfl (by omega) (Eq.trans (e_Has.eq hT (k9 (by omega))) (by omega)) (by omega) ?_
  refine e_Ok.run (t' := (7, [(6, (1, 17 * a + 86)), (0, (1, 250)), (1, (1, 9)), (2, (0, n)), (3, (0, a)), (4, (0, o)), (5, (0, m))], [(1, 17 * a + 86)], w)) 2 rfl ?_
  refine e_Ok.callV rfl (e_dq hd rfl) rfl (lA0 (a := a) rfl g_a) rfl rfl (c_7 (a := a) hT (by omega)) (fun r1 w2 h3 => ?_)
  obtain ⟨z5, rfl, rfl, q4r, q4x⟩ := h3
  replace q4x : z5 ≤ w (17 * a + 86) 8 + 1 := q4x
  refine e_Ok.nrm (q := 10) (st' := [(0, z5)]) rfl rfl ?_
  refine e_Ok.run (t' := (15, [(8, (0, 0)), (7, (0, z5)), (6, (1, 17 * a + 86)), (0, (1, 250)), (1, (1, 9)), (2, (0, n)), (3, (0, a)), (4, (0, o)), (5, (0, m))], [], w)) 3 rfl ?_
  have hL6 : ∀ (nn : Nat) (y8 : Int) (v1 : eW), e_fr kTc w v1 ∧ e_Has kTy v1 ∧ (0 ≤ y8 ∧ y8 ≤ 7) → 8 - y8 < nn → e_Ok 20 elay kcode eI (d + 1) 171 (15, [(0, (1, 250)), (1, (1, 9)), (2, (0, n)), (3, (0, a)), (4, (0, o)), (5, (0, m)), (6, (1, 17 * a + 86)), (7, (0, z5)), (8, (0, y8))], [], v1) (fun r w' => ∃ z : Int, r = [(0, z)] ∧ e_fr kTc w w' ∧ e_Has kTy w' ∧ (0 ≤ z ∧ z ≤ 1)) := by
    intro nn
    induction nn with
    | zero => intro y8 v1 hj hm; obtain ⟨j8, j9, j10⟩ := hj; exfalso; omega
    | succ nn ih7 =>
      intro y8 v1 hj hm
      obtain ⟨j8, j9, j10⟩ := hj
      have l11 : v1 (17 * a + 86) 8 = w (17 * a + 86) 8 := j8 (17 * a + 86) 8 (by first | exact no_c1_0 (by omega) | (unfold kTc; omega))
      refine e_Ok.run (t' := (19, [(0, (1, 250)), (1, (1, 9)), (2, (0, n)), (3, (0, a)), (4, (0, o)), (5, (0, m)), (6, (1, 17 * a + 86)), (7, (0, z5)), (8, (0, y8))], [(0, z5), (0, y8)], v1)) 2 rfl ?_
      refine e_Ok.if2 rfl (fun h12 => ?_) (fun h12 => ?_)
      · replace h12 : (y8 : Int) ≥ z5 := h12
        refine e_Ok.ps1 (x := (0, 0)) (q := 191) 1 rfl ?_
        refine e_Ok.rets rfl rfl ?_
        exact ⟨_, rfl, j8, j9, ⟨by omega, by omega⟩⟩
      · replace h12 : (y8 : Int) < z5 := Int.not_le.mp (show ¬ ((y8 : Int) ≥ z5) from h12)
        refine e_Ok.ps2 (x := (1, 17 * a + 86)) (y := (1, 250)) (q := 25) 2 rfl ?_
        refine e_Ok.getr (z := 17 * a + 88) rfl (lA0 (a := a) rfl g_a) rfl rfl ((j8 (17 * a + 86) 1 (by first | exact no_c1_1 (by omega) | (unfold kTc; omega))).trans (Eq.trans (e_Has.eq hT (kA_1 (a := a) rfl g_a)) (by omega))) (by omega) ?_
        refine e_Ok.ps1 (x := (0, y8)) (q := 30) 1 rfl ?_
        have h13 := (kx.1 y8 (by omega) (by omega))
        refine e_Ok.ald (z := w (17 * a + 88) y8) rfl (lA2 (a := a) rfl g_a) rfl (by omega) ((j8 (17 * a + 88) y8 (by unfold kTc; omega)).trans rfl) (by omega) ?_
        refine e_Ok.putf rfl (el_o rfl) rfl rfl ?_
        generalize hw14 : e_up v1 250 13 (w (17 * a + 88) y8) = w14
        have f15 : e_fr kTc w w14 := e_fr.up j8 hw14 (by first | exact ⟨rfl, ⟨(by decide), (by decide)⟩⟩ | (unfold kTc; omega))
        have l16 : w14 (17 * a + 86) 8 = w (17 * a + 86) 8 := f15 (17 * a + 86) 8 (by first | exact no_c1_0 (by omega) | (unfold kTc; omega))
        have hT17 : e_Has kTy w14 := e_Has.ups j9 hw14 rfl
        refine e_Ok.ps2 (x := (1, 17 * a + 86)) (y := (1, 250)) (q := 37) 2 rfl ?_
        refine e_Ok.getr (z := 17 * a + 89) rfl (lA0 (a := a) rfl g_a) rfl rfl (e_uq hw14 (Or.inr (by decide)) ((j8 (17 * a + 86) 2 (by first | exact no_c1_2 (by omega) | (unfold kTc; omega))).trans (Eq.trans (e_Has.eq hT (kA_2 (a := a) rfl g_a)) (by omega)))) (by omega) ?_
        refine e_Ok.ps1 (x := (0, y8)) (q := 42) 1 rfl ?_
        have h18 := (kx.2 y8 (by omega) (by omega))
        refine e_Ok.ald (z := w (17 * a + 89) y8) rfl (lA3 (a := a) rfl g_a) rfl (by omega) (e_uq hw14 (Or.inl (by omega)) ((j8 (17 * a + 89) y8 (by unfold kTc; omega)).trans rfl)) (by omega) ?_
        refine e_Ok.putf rfl (el_o rfl) rfl rfl ?_
        generalize hw19 : e_up w14 250 14 (w (17 * a + 89) y8) = w19
        have f20 : e_fr kTc w w19 := e_fr.up f15 hw19 (by first | exact ⟨rfl, ⟨(by decide), (by decide)⟩⟩ | (unfold kTc; omega))
        have l21 : w19 (17 * a + 86) 8 = w (17 * a + 86) 8 := f20 (17 * a + 86) 8 (by first | exact no_c1_0 (by omega) | (unfold kTc; omega))
        have hT22 : e_Has kTy w19 := e_Has.ups hT17 hw19 (kt_o rfl)
        refine e_Ok.ps2 (x := (1, 17 * a + 86)) (y := (1, 250)) (q := 49) 2 rfl ?_
        refine e_Ok.getr (z := 17 * a + 88) rfl (lA0 (a := a) rfl g_a) rfl rfl (e_uq hw19 (Or.inr (by decide)) (e_uq hw14 (Or.inr (by decide)) ((j8 (17 * a + 86) 1 (by first | exact no_c1_1 (by omega) | (unfold kTc; omega))).trans (Eq.trans (e_Has.eq hT (kA_1 (a := a) rfl g_a)) (by omega))))) (by omega) ?_
        refine e_Ok.ps2 (x := (0, 1)) (y := (0, y8)) (q := 55) 2 rfl ?_
        refine e_Ok.add (z := y8 + 1) rfl rfl (by omega) ?_
        have h23 := (kx.1 (y8 + 1) (by omega) (by omega))
        refine e_Ok.ald (z := w (17 * a + 88) (y8 + 1)) rfl (lA2 (a := a) rfl g_a) rfl (by omega) (e_uq hw19 (Or.inl (by omega)) (e_uq hw14 (Or.inl (by omega)) ((j8 (17 * a + 88) (y8 + 1) (by unfold kTc; omega)).trans rfl))) (by omega) ?_
        refine e_Ok.putf rfl (el_o rfl) rfl rfl ?_
        generalize hw24 : e_up w19 250 15 (w (17 * a + 88) (y8 + 1)) = w24
        have f25 : e_fr kTc w w24 := e_fr.up f20 hw24 (by first | exact ⟨rfl, ⟨(by decide), (by decide)⟩⟩ | (unfold kTc; omega))
        have l26 : w24 (17 * a + 86) 8 = w (17 * a + 86) 8 := f25 (17 * a + 86) 8 (by first | exact no_c1_0 (by omega) | (unfold kTc; omega))
        have hT27 : e_Has kTy w24 := e_Has.ups hT22 hw24 (kt_o rfl)
        refine e_Ok.ps2 (x := (1, 17 * a + 86)) (y := (1, 250)) (q := 63) 2 rfl ?_
        refine e_Ok.getr (z := 17 * a + 89) rfl (lA0 (a := a) rfl g_a) rfl rfl (e_uq hw24 (Or.inr (by decide)) (e_uq hw19 (Or.inr (by decide)) (e_uq hw14 (Or.inr (by decide)) ((j8 (17 * a + 86) 2 (by first | exact no_c1_2 (by omega) | (unfold kTc; omega))).trans (Eq.trans (e_Has.eq hT (kA_2 (a := a) rfl g_a)) (by omega)))))) (by omega) ?_
        refine e_Ok.ps2 (x := (0, 1)) (y := (0, y8)) (q := 69) 2 rfl ?_
        refine e_Ok.add (z := y8 + 1) rfl rfl (by omega) ?_
        have h28 := (kx.2 (y8 + 1) (by omega) (by omega))
        refine e_Ok.ald (z := w (17 * a + 89) (y8 + 1)) rfl (lA3 (a := a) rfl g_a) rfl (by omega) (e_uq hw24 (Or.inl (by omega)) (e_uq hw19 (Or.inl (by omega)) (e_uq hw14 (Or.inl (by omega)) ((j8 (17 * a + 89) (y8 + 1) (by unfold kTc; omega)).trans rfl)))) (by omega) ?_
        refine e_Ok.putf rfl (el_o rfl) rfl rfl ?_
        generalize hw29 : e_up w24 250 16 (w (17 * a + 89) (y8 + 1)) = w29
        have f30 : e_fr kTc w w29 := e_fr.up f25 hw29 (by first | exact ⟨rfl, ⟨(by decide), (by decide)⟩⟩ | (unfold kTc; omega))
        have l31 : w29 (17 * a + 86) 8 = w (17 * a + 86) 8 := f30 (17 * a + 86) 8 (by first | exact no_c1_0 (by omega) | (unfold kTc; omega))
        have hT32 : e_Has kTy w29 := e_Has.ups hT27 hw29 (kt_o rfl)
        have kl33 : e_kn w29 250 13 16 := fun i g1 g2 => by
          obtain rfl | rfl | rfl | rfl : i = 13 ∨ i = 14 ∨ i = 15 ∨ i = 16 := by omega
          · rw [show w29 250 13 = w (17 * a + 88) y8 from (e_uq hw29 (Or.inr (by first | decide | omega)) (e_uq hw24 (Or.inr (by first | decide | omega)) (e_uq hw19 (Or.inr (by first | decide | omega)) (e_ue hw14))))]; omega
          · rw [show w29 250 14 = w (17 * a + 89) y8 from (e_uq hw29 (Or.inr (by first | decide | omega)) (e_uq hw24 (Or.inr (by first | decide | omega)) (e_ue hw19)))]; omega
          · rw [show w29 250 15 = w (17 * a + 88) (y8 + 1) from (e_uq hw29 (Or.inr (by first | decide | omega)) (e_ue hw24))]; omega
          · rw [show w29 250 16 = w (17 * a + 89) (y8 + 1) from (e_ue hw29)]; omega
        refine e_Ok.run (t' := (78, [(0, (1, 250)), (1, (1, 9)), (2, (0, n)), (3, (0, a)), (4, (0, o)), (5, (0, m)), (6, (1, 17 * a + 86)), (7, (0, z5)), (8, (0, y8))], [(0, y8), (1, 17 * a + 86)], w29)) 2 rfl ?_
        refine e_Ok.callV rfl (e_dq hd rfl) rfl (lA0 (a := a) rfl g_a) rfl rfl (c_8 (a := a) hT32 (by omega) (by omega)) (fun r34 w35 h36 => ?_)
        obtain ⟨z38, rfl, rfl, q37r⟩ := h36
        refine e_Ok.nrm (q := 81) (st' := [(0, z38)]) rfl rfl ?_
        refine e_Ok.ps1 (x := (0, m)) (q := 83) 1 rfl ?_
        refine e_Ok.any rfl (eF_add_any _ _) (fun z40 z40a z40b => ?_)
        refine e_Ok.run (t' := (92, [(9, (0, z40)), (0, (1, 250)), (1, (1, 9)), (2, (0, n)), (3, (0, a)), (4, (0, o)), (5, (0, m)), (6, (1, 17 * a + 86)), (7, (0, z5)), (8, (0, y8))], [(0, 2), (0, y8), (1, 17 * a + 86), (1, 250)], w29)) 5 rfl ?_
        refine e_Ok.add (z := y8 + 2) rfl rfl (by omega) ?_
        refine e_Ok.ps1 (x := (0, z40)) (q := 95) 1 rfl ?_
        refine e_Ok.callV rfl (e_dq hd rfl) rfl rfl rfl rfl (c_172 (e_dq hd rfl) (a := a) hT32 (by omega) (by omega) (by omega) kl33 (aK.fr f30 (fun k => by unfold kTc; omega) (by unfold kTc; omega) (ka a (by omega) (by omega)))) (fun r41 w42 h43 => ?_)
        obtain ⟨z45, rfl, rfl, q44r⟩ := h43
        refine e_Ok.nrm (q := 98) (st' := [(0, z45)]) rfl rfl ?_
        refine e_Ok.if1 rfl (fun h46 => ?_) (fun h46 => ?_)
        · replace h46 : (z45 : Int) = 0 := h46
          refine e_Ok.run (t' := (106, [(10, (0, 0)), (9, (0, z40)), (0, (1, 250)), (1, (1, 9)), (2, (0, n)), (3, (0, a)), (4, (0, o)), (5, (0, m)), (6, (1, 17 * a + 86)), (7, (0, z5)), (8, (0, y8))], [], w29)) 2 rfl ?_
          have hL47 : ∀ (nn : Nat) (y10 : Int), 0 ≤ y10 ∧ y10 ≤ 16 → 17 - y10 < nn → e_Ok 20 elay kcode eI (d + 1) 171 (106, [(0, (1, 250)), (1, (1, 9)), (2, (0, n)), (3, (0, a)), (4, (0, o)), (5, (0, m)), (6, (1, 17 * a + 86)), (7, (0, z5)), (8, (0, y8)), (9, (0, z40)), (10, (0, y10))], [], w29) (fun r w' => ∃ z : Int, r = [(0, z)] ∧ e_fr kTc w w' ∧ e_Has kTy w' ∧ (0 ≤ z ∧ z ≤ 1)) := by
            intro nn
            induction nn with
            | zero => intro y10 hj hm; obtain j49 := hj; exfalso; omega
            | succ nn ih48 =>
              intro y10 hj hm
              obtain j49 := hj
              refine e_Ok.run (t' := (109, [(0, (1, 250)), (1, (1, 9)), (2, (0, n)), (3, (0, a)), (4, (0, o)), (5, (0, m)), (6, (1, 17 * a + 86)), (7, (0, z5)), (8, (0, y8)), (9, (0, z40)), (10, (0, y10))], [(1, 250), (0, y10)], w29)) 2 rfl ?_
              have h50 := (e_Has.get hT (c := 250) (k := 0) (lo := 0) (hi := 16) (kt_o rfl) (by decide))
              refine e_Ok.getf (z := w 250 0) rfl (el_o rfl) rfl rfl (e_uq hw29 (Or.inr (by decide)) (e_uq hw24 (Or.inr (by decide)) (e_uq hw19 (Or.inr (by decide)) (e_uq hw14 (Or.inr (by decide)) ((j8 250 0 no_c1_3).trans rfl))))) (e_bq h50 (by decide) (by decide)) ?_
              refine e_Ok.if2 rfl (fun h51 => ?_) (fun h51 => ?_)
              · replace h51 : (y10 : Int) ≥ w 250 0 := h51
                refine e_Ok.run (t' := (150, [(10, (0, o)), (0, (1, 250)), (1, (1, 9)), (2, (0, n)), (3, (0, a)), (4, (0, o)), (5, (0, m)), (6, (1, 17 * a + 86)), (7, (0, z5)), (8, (0, y8)), (9, (0, z40))], [], w29)) 2 rfl ?_
                have hL52 : ∀ (nn : Nat) (y11 : Int), 0 ≤ y11 ∧ y11 ≤ 4 → 5 - y11 < nn → e_Ok 20 elay kcode eI (d + 1) 171 (150, [(0, (1, 250)), (1, (1, 9)), (2, (0, n)), (3, (0, a)), (4, (0, o)), (5, (0, m)), (6, (1, 17 * a + 86)), (7, (0, z5)), (8, (0, y8)), (9, (0, z40)), (10, (0, y11))], [], w29) (fun r w' => ∃ z : Int, r = [(0, z)] ∧ e_fr kTc w w' ∧ e_Has kTy w' ∧ (0 ≤ z ∧ z ≤ 1)) := by
                  intro nn
                  induction nn with
                  | zero => intro y11 hj hm; obtain j54 := hj; exfalso; omega
                  | succ nn ih53 =>
                    intro y11 hj hm
                    obtain j54 := hj
                    refine e_Ok.run (t' := (153, [(0, (1, 250)), (1, (1, 9)), (2, (0, n)), (3, (0, a)), (4, (0, o)), (5, (0, m)), (6, (1, 17 * a + 86)), (7, (0, z5)), (8, (0, y8)), (9, (0, z40)), (10, (0, y11))], [(0, n), (0, y11)], w29)) 2 rfl ?_
                    refine e_Ok.if2 rfl (fun h55 => ?_) (fun h55 => ?_)
                    · replace h55 : (y11 : Int) ≥ n := h55
                      refine e_Ok.inc (z := y8 + 1) rfl rfl (by first | with_reducible rfl | omega) (by omega) ?_
                      show e_Ok 20 elay kcode eI (d + 1) 171 (187, [(8, (0, y8 + 1)), (0, (1, 250)), (1, (1, 9)), (2, (0, n)), (3, (0, a)), (4, (0, o)), (5, (0, m)), (6, (1, 17 * a + 86)), (7, (0, z5)), (9, (0, z40)), (10, (0, y11))], [], w29) _
                      refine e_Ok.ps0 (q := 15) 1 rfl ?_
                      refine e_Ok.sub kAlk (e_sub_of rfl ?_) (ih7 (y8 + 1) w29 ⟨f30, hT32, by omega⟩ (by omega))
                      exact ⟨rfl, rfl, rfl, rfl, rfl, rfl, rfl, rfl, rfl, trivial⟩
                    · replace h55 : (y11 : Int) < n := Int.not_le.mp (show ¬ ((y11 : Int) ≥ n) from h55)
                      refine e_Ok.ps2 (x := (0, a)) (y := (0, y11)) (q := 159) 2 rfl ?_
                      refine e_Ok.if2 rfl (fun h56 => ?_) (fun h56 => ?_)
                      · replace h56 : (y11 : Int) = a := h56
                        refine e_Ok.inc (z := y11 + 1) rfl rfl (by first | with_reducible rfl | omega) (by omega) ?_
                        show e_Ok 20 elay kcode eI (d + 1) 171 (181, [(10, (0, y11 + 1)), (0, (1, 250)), (1, (1, 9)), (2, (0, n)), (3, (0, a)), (4, (0, o)), (5, (0, m)), (6, (1, 17 * a + 86)), (7, (0, z5)), (8, (0, y8)), (9, (0, z40))], [], w29) _
                        refine e_Ok.ps0 (q := 150) 1 rfl ?_
                        refine e_Ok.sub kAlk (e_sub_of rfl ?_) (ih53 (y11 + 1) (by omega) (by omega))
                        exact ⟨rfl, rfl, rfl, rfl, rfl, rfl, rfl, rfl, rfl, rfl, rfl, trivial⟩
                      · replace h56 : (y11 : Int) ≠ a := (show ¬ ((y11 : Int) = a) from h56)
                        refine e_Ok.ps3 (x := (0, y11)) (y := (1, 9)) (z := (1, 250)) (q := 166) 3 rfl ?_
                        refine e_Ok.aald (z := 17 * y11 + 86) rfl (el_o rfl) rfl (by omega) (e_uq hw29 (Or.inl (by decide)) (e_uq hw24 (Or.inl (by decide)) (e_uq hw19 (Or.inl (by decide)) (e_uq hw14 (Or.inl (by decide)) ((j8 9 y11 no_c1_4).trans (Eq.trans (e_Has.eq hT (k9 (by omega))) (by omega))))))) (by omega) ?_
                        refine e_Ok.ps2 (x := (0, z40)) (y := (0, 0)) (q := 170) 2 rfl ?_
                        refine e_Ok.callV rfl (e_dq hd rfl) rfl rfl rfl rfl (c_172 (e_dq hd rfl) (a := y11) hT32 (by omega) (by omega) (by omega) kl33 (aK.fr f30 (fun k => by unfold kTc; omega) (by unfold kTc; omega) (ka y11 (by omega) (by omega)))) (fun r57 w58 h59 => ?_)
                        obtain ⟨z61, rfl, rfl, q60r⟩ := h59
                        refine e_Ok.nrm (q := 173) (st' := [(0, z61)]) rfl rfl ?_
                        refine e_Ok.if1 rfl (fun h62 => ?_) (fun h62 => ?_)
                        · replace h62 : (z61 : Int) = 0 := h62
                          refine e_Ok.inc (z := y11 + 1) rfl rfl (by first | with_reducible rfl | omega) (by omega) ?_
                          show e_Ok 20 elay kcode eI (d + 1) 171 (181, [(10, (0, y11 + 1)), (0, (1, 250)), (1, (1, 9)), (2, (0, n)), (3, (0, a)), (4, (0, o)), (5, (0, m)), (6, (1, 17 * a + 86)), (7, (0, z5)), (8, (0, y8)), (9, (0, z40))], [], w29) _
                          refine e_Ok.ps0 (q := 150) 1 rfl ?_
                          refine e_Ok.sub kAlk (e_sub_of rfl ?_) (ih53 (y11 + 1) (by omega) (by omega))
                          exact ⟨rfl, rfl, rfl, rfl, rfl, rfl, rfl, rfl, rfl, rfl, rfl, trivial⟩
                        · replace h62 : (z61 : Int) ≠ 0 := (show ¬ ((z61 : Int) = 0) from h62)
                          refine e_Ok.ps1 (x := (0, 1)) (q := 177) 1 rfl ?_
                          refine e_Ok.rets rfl rfl ?_
                          exact ⟨_, rfl, f30, hT32, ⟨by omega, by omega⟩⟩
                refine e_Ok.sub kAlk (e_sub_of rfl ?_) (hL52 (5 + 1 : Int).toNat o (by omega) (by omega))
                exact ⟨rfl, rfl, rfl, rfl, rfl, rfl, rfl, rfl, rfl, rfl, rfl, trivial⟩
              · replace h51 : (y10 : Int) < w 250 0 := Int.not_le.mp (show ¬ ((y10 : Int) ≥ w 250 0) from h51)
                refine e_Ok.ps3 (x := (0, y10)) (y := (0, y8)) (z := (1, 17 * a + 86)) (q := 121) 3 rfl ?_
                refine e_Ok.callV rfl (e_dq hd rfl) rfl (lA0 (a := a) rfl g_a) rfl rfl (c_6 (a := a) hT32 (by omega) (by omega) (by omega)) (fun r63 w64 h65 => ?_)
                obtain ⟨z67, rfl, rfl, q66r⟩ := h65
                refine e_Ok.nrm (q := 124) (st' := [(0, z67)]) rfl rfl ?_
                refine e_Ok.if1 rfl (fun h68 => ?_) (fun h68 => ?_)
                · replace h68 : (z67 : Int) ≠ 0 := h68
                  refine e_Ok.inc (z := y10 + 1) rfl rfl (by first | with_reducible rfl | omega) (by omega) ?_
                  show e_Ok 20 elay kcode eI (d + 1) 171 (143, [(10, (0, y10 + 1)), (0, (1, 250)), (1, (1, 9)), (2, (0, n)), (3, (0, a)), (4, (0, o)), (5, (0, m)), (6, (1, 17 * a + 86)), (7, (0, z5)), (8, (0, y8)), (9, (0, z40))], [], w29) _
                  refine e_Ok.ps0 (q := 106) 1 rfl ?_
                  refine e_Ok.sub kAlk (e_sub_of rfl ?_) (ih48 (y10 + 1) (by omega) (by omega))
                  exact ⟨rfl, rfl, rfl, rfl, rfl, rfl, rfl, rfl, rfl, rfl, rfl, trivial⟩
                · replace h68 : (z67 : Int) = 0 := Classical.not_not.mp (show ¬ ((z67 : Int) ≠ 0) from h68)
                  refine e_Ok.ps3 (x := (0, z40)) (y := (0, y10)) (z := (1, 250)) (q := 132) 3 rfl ?_
                  refine e_Ok.callV rfl (e_dq hd rfl) rfl rfl rfl rfl (c_173 (e_dq hd rfl) hT32 (by omega) (by omega) kl33) (fun r69 w70 h71 => ?_)
                  obtain ⟨z73, rfl, rfl, q72r⟩ := h71
                  refine e_Ok.nrm (q := 135) (st' := [(0, z73)]) rfl rfl ?_
                  refine e_Ok.if1 rfl (fun h74 => ?_) (fun h74 => ?_)
                  · replace h74 : (z73 : Int) = 0 := h74
                    refine e_Ok.inc (z := y10 + 1) rfl rfl (by first | with_reducible rfl | omega) (by omega) ?_
                    show e_Ok 20 elay kcode eI (d + 1) 171 (143, [(10, (0, y10 + 1)), (0, (1, 250)), (1, (1, 9)), (2, (0, n)), (3, (0, a)), (4, (0, o)), (5, (0, m)), (6, (1, 17 * a + 86)), (7, (0, z5)), (8, (0, y8)), (9, (0, z40))], [], w29) _
                    refine e_Ok.ps0 (q := 106) 1 rfl ?_
                    refine e_Ok.sub kAlk (e_sub_of rfl ?_) (ih48 (y10 + 1) (by omega) (by omega))
                    exact ⟨rfl, rfl, rfl, rfl, rfl, rfl, rfl, rfl, rfl, rfl, rfl, trivial⟩
                  · replace h74 : (z73 : Int) ≠ 0 := (show ¬ ((z73 : Int) = 0) from h74)
                    refine e_Ok.ps1 (x := (0, 1)) (q := 139) 1 rfl ?_
                    refine e_Ok.rets rfl rfl ?_
                    exact ⟨_, rfl, f30, hT32, ⟨by omega, by omega⟩⟩
          refine e_Ok.sub kAlk (e_sub_of rfl ?_) (hL47 (17 + 1 : Int).toNat 0 (by omega) (by omega))
          exact ⟨rfl, rfl, rfl, rfl, rfl, rfl, rfl, rfl, rfl, rfl, rfl, trivial⟩
        · replace h46 : (z45 : Int) ≠ 0 := (show ¬ ((z45 : Int) = 0) from h46)
          refine e_Ok.ps1 (x := (0, 1)) (q := 102) 1 rfl ?_
          refine e_Ok.rets rfl rfl ?_
          exact ⟨_, rfl, f30, hT32, ⟨by omega, by omega⟩⟩
  refine e_Ok.sub kAlk (e_sub_of rfl ?_) (hL6 (8 + 1 : Int).toNat 0 w ⟨(e_fr.refl w), hT, by omega⟩ (by omega))
  exact ⟨rfl, rfl, rfl, rfl, rfl, rfl, rfl, rfl, rfl, trivial⟩
theorem no_c1_5 {k : Int} : ¬ kTc 0 k := by unfold kTc; omega
theorem c_263 {d : Nat} (hd : 24 ≤ d) {w : eW} (hT : e_Has kTy w) (ka : ∀ b, 0 ≤ b → b ≤ 3 → aK w b) : e_Ok 20 elay kcode eI d 263 (0, [(0, (1, 0))], [], w) (fun r w' => ∃ z : Int, r = [(0, z)] ∧ e_fr kTc w w' ∧ e_Has kTy w' ∧ ((-1) ≤ z ∧ z ≤ 3)) := by
  obtain ⟨d, rfl⟩ : ∃ e, d = e + 1 := ⟨d - 1, by omega⟩
  refine e_Ok.run (t' := (2, [(1, (0, 0)), (0, (1, 0))], [], w)) 2 rfl ?_
  have hL1 : ∀ (nn : Nat) (y1 : Int) (v1 : eW), e_fr kTc w v1 ∧ e_Has kTy v1 ∧ (0 ≤ y1 ∧ y1 ≤ 4) → 5 - y1 < nn → e_Ok 20 elay kcode eI (d + 1) 263 (2, [(0, (1, 0)), (1, (0, y1))], [], v1) (fun r w' => ∃ z : Int, r = [(0, z)] ∧ e_fr kTc w w' ∧ e_Has kTy w' ∧ ((-1) ≤ z ∧ z ≤ 3)) := by
    intro nn
    induction nn with
    | zero => intro y1 v1 hj hm; obtain ⟨j3, j4, j5⟩ := hj; exfalso; omega
    | succ nn ih2 =>
      intro y1 v1 hj hm
      obtain ⟨j3, j4, j5⟩ := hj
      refine e_Ok.run (t' := (4, [(0, (1, 0)), (1, (0, y1))], [(1, 0), (0, y1)], v1)) 2 rfl ?_
      have h6 := (e_Has.get hT (c := 0) (k := 11) (lo := 0) (hi := 4) (kt_o rfl) (by decide))
      refine e_Ok.getf (z := w 0 11) rfl (el_o rfl) rfl rfl ((j3 0 11 no_c1_5).trans rfl) (e_bq h6 (by decide) (by decide)) ?_
      refine e_Ok.if2 rfl (fun h7 => ?_) (fun h7 => ?_)
      · replace h7 : (y1 : Int) ≥ w 0 11 := h7
        refine e_Ok.ps1 (x := (0, (-1))) (q := 42) 1 rfl ?_
        refine e_Ok.rets rfl rfl ?_
        exact ⟨_, rfl, j3, j4, ⟨by omega, by omega⟩⟩
      · replace h7 : (y1 : Int) < w 0 11 := Int.not_le.mp (show ¬ ((y1 : Int) ≥ w 0 11) from h7)
        refine e_Ok.ps1 (x := (1, 0)) (q := 11) 1 rfl ?_
        refine e_Ok.getr (z := 250) rfl (el_o rfl) rfl rfl ((j3 0 6 no_c1_5).trans (e_Has.eq hT (kt_o rfl))) ⟨by decide, by decide⟩ ?_
        refine e_Ok.ps1 (x := (1, 0)) (q := 15) 1 rfl ?_
        refine e_Ok.getr (z := 9) rfl (el_o rfl) rfl rfl ((j3 0 2 no_c1_5).trans (e_Has.eq hT (kt_o rfl))) ⟨by decide, by decide⟩ ?_
        refine e_Ok.ps1 (x := (1, 0)) (q := 19) 1 rfl ?_
        refine e_Ok.getf (z := w 0 11) rfl (el_o rfl) rfl rfl ((j3 0 11 no_c1_5).trans rfl) (by omega) ?_
        refine e_Ok.ps3 (x := (0, 1)) (y := (0, y1)) (z := (0, y1)) (q := 25) 3 rfl ?_
        refine e_Ok.add (z := y1 + 1) rfl rfl (by omega) ?_
        refine e_Ok.ps1 (x := (0, 0)) (q := 27) 1 rfl ?_
        refine e_Ok.callV rfl (e_dq hd rfl) rfl rfl rfl rfl (c_171 (e_dq hd rfl) j4 (by omega) (by omega) (by omega) (by omega) (fun b g1 g2 => aK.fr j3 (fun k => by unfold kTc; omega) (by unfold kTc; omega) (ka b g1 g2))) (fun r8 w9 h10 => ?_)
        obtain ⟨z12, rfl, q11f, q11T, q11r⟩ := h10
        have f13 : e_fr kTc w w9 := e_fr.trans j3 (e_fr.mono q11f (fun c k q => by exact q))
        refine e_Ok.nrm (q := 30) (st' := [(0, z12)]) rfl rfl ?_
        refine e_Ok.if1 rfl (fun h14 => ?_) (fun h14 => ?_)
        · replace h14 : (z12 : Int) = 0 := h14
          refine e_Ok.inc (z := y1 + 1) rfl rfl (by first | with_reducible rfl | omega) (by omega) ?_
          show e_Ok 20 elay kcode eI (d + 1) 263 (38, [(1, (0, y1 + 1)), (0, (1, 0))], [], w9) _
          refine e_Ok.ps0 (q := 2) 1 rfl ?_
          refine e_Ok.sub kAlk (e_sub_of rfl ?_) (ih2 (y1 + 1) w9 ⟨f13, q11T, by omega⟩ (by omega))
          exact ⟨rfl, rfl, trivial⟩
        · replace h14 : (z12 : Int) ≠ 0 := (show ¬ ((z12 : Int) = 0) from h14)
          refine e_Ok.ps1 (x := (0, y1)) (q := 34) 1 rfl ?_
          refine e_Ok.rets rfl rfl ?_
          exact ⟨_, rfl, f13, q11T, ⟨by omega, by omega⟩⟩
  refine e_Ok.sub kAlk (e_sub_of rfl ?_) (hL1 (5 + 1 : Int).toNat 0 w ⟨(e_fr.refl w), hT, by omega⟩ (by omega))
  exact ⟨rfl, rfl, trivial⟩
theorem c_170 {d : Nat} (hd : 21 ≤ d) {w : eW} (hT : e_Has kTy w) {a i k : Int} (g_a : 0 ≤ a ∧ a ≤ 3) (g_i : 0 ≤ i ∧ i ≤ 7) (g_k : 0 ≤ k ∧ k ≤ 6) (kx : aK w a) (ko : oK w a) (hk : k ≤ w (17 * a + 86) 8) : e_Ok 20 elay kcode eI d 170 (0, [(0, (1, 250)), (1, (0, i)), (2, (1, 17 * a + 86)), (3, (0, k))], [], w) (fun r w' => ∃ z : Int, r = [(0, z)] ∧ w = w' ∧ (0 ≤ z ∧ z ≤ 1)) := by
  obtain ⟨d, rfl⟩ : ∃ e, d = e + 1 := ⟨d - 1, by omega⟩
  refine e_Ok.ps1 (x := (1, 17 * a + 86)) (q := 1) 1 rfl ?_
  refine e_Ok.getr (z := 17 * a + 88) rfl (lA0 (a := a) rfl g_a) rfl rfl (Eq.trans (e_Has.eq hT (kA_1 (a := a) rfl g_a)) (by omega)) (by omega) ?_
  refine e_Ok.ps1 (x := (0, k)) (q := 5) 1 rfl ?_
  have h1 := (kx.1 k (by omega) (by omega))
  refine e_Ok.ald (z := w (17 * a + 88) k) rfl (lA2 (a := a) rfl g_a) rfl (by omega) rfl (by omega) ?_
  refine e_Ok.ps1 (x := (1, 250)) (q := 7) 1 rfl ?_
  refine e_Ok.getr (z := 258) rfl (el_o rfl) rfl rfl (e_Has.eq hT (kt_o rfl)) ⟨by decide, by decide⟩ ?_
  refine e_Ok.ps1 (x := (0, i)) (q := 11) 1 rfl ?_
  have h2 := (e_Has.get hT (c := 258) (k := i) (lo := (-2147483648)) (hi := 2147483647) (kt_o rfl) (by decide))
  refine e_Ok.ald (z := w 258 i) rfl (el_o rfl) rfl (by omega) rfl (e_bq h2 (by decide) (by decide)) ?_
  refine e_Ok.ps1 (x := (1, 250)) (q := 13) 1 rfl ?_
  refine e_Ok.getr (z := 260) rfl (el_o rfl) rfl rfl (e_Has.eq hT (kt_o rfl)) ⟨by decide, by decide⟩ ?_
  refine e_Ok.ps1 (x := (0, i)) (q := 17) 1 rfl ?_
  have h3 := (e_Has.get hT (c := 260) (k := i) (lo := (-2147483648)) (hi := 2147483647) (kt_o rfl) (by decide))
  refine e_Ok.ald (z := w 260 i) rfl (el_o rfl) rfl (by omega) rfl (e_bq h3 (by decide) (by decide)) ?_
  refine e_Ok.callS rfl (e_dq hd rfl) rfl rfl (c_242 (by omega) (by omega) (by omega)) (fun r4 w5 h6 => ?_)
  obtain ⟨z7, rfl, rfl, q8⟩ := h6
  obtain ⟨rfl, q8⟩ | ⟨rfl, q8⟩ := q8
  · refine e_Ok.nrm (q := 21) (st' := [(0, 1)]) rfl rfl ?_
    refine e_Ok.if1 rfl (fun h9 => ?_) (fun h9 => ?_)
    · replace h9 : (1 : Int) = 0 := h9
      exfalso; omega
    · replace h9 : (1 : Int) ≠ 0 := (show ¬ ((1 : Int) = 0) from h9)
      refine e_Ok.ps1 (x := (1, 17 * a + 86)) (q := 25) 1 rfl ?_
      refine e_Ok.getr (z := 17 * a + 89) rfl (lA0 (a := a) rfl g_a) rfl rfl (Eq.trans (e_Has.eq hT (kA_2 (a := a) rfl g_a)) (by omega)) (by omega) ?_
      refine e_Ok.ps1 (x := (0, k)) (q := 29) 1 rfl ?_
      have h10 := (kx.2 k (by omega) (by omega))
      refine e_Ok.ald (z := w (17 * a + 89) k) rfl (lA3 (a := a) rfl g_a) rfl (by omega) rfl (by omega) ?_
      refine e_Ok.ps1 (x := (1, 250)) (q := 31) 1 rfl ?_
      refine e_Ok.getr (z := 259) rfl (el_o rfl) rfl rfl (e_Has.eq hT (kt_o rfl)) ⟨by decide, by decide⟩ ?_
      refine e_Ok.ps1 (x := (0, i)) (q := 35) 1 rfl ?_
      have h11 := (e_Has.get hT (c := 259) (k := i) (lo := (-2147483648)) (hi := 2147483647) (kt_o rfl) (by decide))
      refine e_Ok.ald (z := w 259 i) rfl (el_o rfl) rfl (by omega) rfl (e_bq h11 (by decide) (by decide)) ?_
      refine e_Ok.ps1 (x := (1, 250)) (q := 37) 1 rfl ?_
      refine e_Ok.getr (z := 261) rfl (el_o rfl) rfl rfl (e_Has.eq hT (kt_o rfl)) ⟨by decide, by decide⟩ ?_
      refine e_Ok.ps1 (x := (0, i)) (q := 41) 1 rfl ?_
      have h12 := (e_Has.get hT (c := 261) (k := i) (lo := (-2147483648)) (hi := 2147483647) (kt_o rfl) (by decide))
      refine e_Ok.ald (z := w 261 i) rfl (el_o rfl) rfl (by omega) rfl (e_bq h12 (by decide) (by decide)) ?_
      refine e_Ok.callS rfl (e_dq hd rfl) rfl rfl (c_242 (by omega) (by omega) (by omega)) (fun r13 w14 h15 => ?_)
      obtain ⟨z16, rfl, rfl, q17⟩ := h15
      obtain ⟨rfl, q17⟩ | ⟨rfl, q17⟩ := q17
      · refine e_Ok.nrm (q := 45) (st' := [(0, 1)]) rfl rfl ?_
        refine e_Ok.if1 rfl (fun h18 => ?_) (fun h18 => ?_)
        · replace h18 : (1 : Int) ≠ 0 := h18
          refine e_Ok.ps1 (x := (1, 250)) (q := 51) 1 rfl ?_
          refine e_Ok.getr (z := 257) rfl (el_o rfl) rfl rfl (e_Has.eq hT (kt_o rfl)) ⟨by decide, by decide⟩ ?_
          refine e_Ok.ps1 (x := (0, i)) (q := 55) 1 rfl ?_
          have h19 := (e_Has.get hT (c := 257) (k := i) (lo := (-2147483648)) (hi := 2147483647) (kt_o rfl) (by decide))
          refine e_Ok.ald (z := w 257 i) rfl (el_o rfl) rfl (by omega) rfl (e_bq h19 (by decide) (by decide)) ?_
          refine e_Ok.if1 rfl (fun h20 => ?_) (fun h20 => ?_)
          · replace h20 : (w 257 i : Int) ≥ 0 := h20
            refine e_Ok.ps1 (x := (1, 17 * a + 86)) (q := 62) 1 rfl ?_
            refine e_Ok.getr (z := 17 * a + 88) rfl (lA0 (a := a) rfl g_a) rfl rfl (Eq.trans (e_Has.eq hT (kA_1 (a := a) rfl g_a)) (by omega)) (by omega) ?_
            refine e_Ok.ps1 (x := (0, k)) (q := 66) 1 rfl ?_
            refine e_Ok.ald (z := w (17 * a + 88) k) rfl (lA2 (a := a) rfl g_a) rfl (by omega) rfl (by omega) ?_
            refine e_Ok.ps1 (x := (1, 17 * a + 86)) (q := 68) 1 rfl ?_
            refine e_Ok.getr (z := 17 * a + 90) rfl (lA0 (a := a) rfl g_a) rfl rfl (Eq.trans (e_Has.eq hT (kA_3 (a := a) rfl g_a)) (by omega)) (by omega) ?_
            refine e_Ok.ps1 (x := (0, k)) (q := 72) 1 rfl ?_
            have h21 := (ko.1 k (by omega) (by omega))
            refine e_Ok.ald (z := w (17 * a + 90) k) rfl (lA4 (a := a) rfl g_a) rfl (by omega) rfl (by omega) ?_
            refine e_Ok.any rfl (eF_sub_any _ _) (fun z22 z22a z22b => ?_)
            refine e_Ok.ps1 (x := (1, 17 * a + 86)) (q := 75) 1 rfl ?_
            refine e_Ok.getr (z := 17 * a + 89) rfl (lA0 (a := a) rfl g_a) rfl rfl (Eq.trans (e_Has.eq hT (kA_2 (a := a) rfl g_a)) (by omega)) (by omega) ?_
            refine e_Ok.ps1 (x := (0, k)) (q := 79) 1 rfl ?_
            refine e_Ok.ald (z := w (17 * a + 89) k) rfl (lA3 (a := a) rfl g_a) rfl (by omega) rfl (by omega) ?_
            refine e_Ok.ps1 (x := (1, 17 * a + 86)) (q := 81) 1 rfl ?_
            refine e_Ok.getr (z := 17 * a + 91) rfl (lA0 (a := a) rfl g_a) rfl rfl (Eq.trans (e_Has.eq hT (kA_4 (a := a) rfl g_a)) (by omega)) (by omega) ?_
            refine e_Ok.ps1 (x := (0, k)) (q := 85) 1 rfl ?_
            have h23 := (ko.2 k (by omega) (by omega))
            refine e_Ok.ald (z := w (17 * a + 91) k) rfl (lA5 (a := a) rfl g_a) rfl (by omega) rfl (by omega) ?_
            refine e_Ok.any rfl (eF_sub_any _ _) (fun z24 z24a z24b => ?_)
            refine e_Ok.callS rfl (e_dq hd rfl) rfl rfl (c_178 (by omega) (by omega)) (fun r25 w26 h27 => ?_)
            obtain ⟨x28, rfl, rfl⟩ := h27
            refine e_Ok.nrm (q := 90) (st' := [(4, x28)]) rfl rfl ?_
            refine e_Ok.run (t' := (95, [(4, (4, x28)), (0, (1, 250)), (1, (0, i)), (2, (1, 17 * a + 86)), (3, (0, k))], [(1, 250), (4, x28)], w)) 3 rfl ?_
            refine e_Ok.getr (z := 257) rfl (el_o rfl) rfl rfl (e_Has.eq hT (kt_o rfl)) ⟨by decide, by decide⟩ ?_
            refine e_Ok.ps1 (x := (0, i)) (q := 99) 1 rfl ?_
            refine e_Ok.ald (z := w 257 i) rfl (el_o rfl) rfl (by omega) rfl (by omega) ?_
            refine e_Ok.run (t' := (102, [(4, (4, x28)), (0, (1, 250)), (1, (0, i)), (2, (1, 17 * a + 86)), (3, (0, k))], [(1, 250), (4, w 257 i), (4, x28)], w)) 2 rfl ?_
            refine e_Ok.getr (z := 257) rfl (el_o rfl) rfl rfl (e_Has.eq hT (kt_o rfl)) ⟨by decide, by decide⟩ ?_
            refine e_Ok.ps1 (x := (0, i)) (q := 106) 1 rfl ?_
            refine e_Ok.ald (z := w 257 i) rfl (el_o rfl) rfl (by omega) rfl (by omega) ?_
            refine e_Ok.run (t' := (108, [(4, (4, x28)), (0, (1, 250)), (1, (0, i)), (2, (1, 17 * a + 86)), (3, (0, k))], [(4, w 257 i), (4, w 257 i), (4, x28)], w)) 1 rfl ?_
            refine e_Ok.anyL rfl ⟨_, rfl⟩ (fun x29 => ?_)
            refine e_Ok.lcmp rfl (fun z30 z30a z30b z30c => ?_)
            refine e_Ok.if1 rfl (fun h31 => ?_) (fun h31 => ?_)
            · replace h31 : (z30 : Int) ≤ 0 := h31
              refine e_Ok.ps1 (x := (0, 0)) (q := 118) 1 rfl ?_
              refine e_Ok.rets rfl rfl ?_
              exact ⟨_, rfl, rfl, ⟨by omega, by omega⟩⟩
            · replace h31 : (z30 : Int) > 0 := Int.not_le.mp (show ¬ ((z30 : Int) ≤ 0) from h31)
              refine e_Ok.ps1 (x := (0, 1)) (q := 118) 2 rfl ?_
              refine e_Ok.rets rfl rfl ?_
              exact ⟨_, rfl, rfl, ⟨by omega, by omega⟩⟩
          · replace h20 : (w 257 i : Int) < 0 := Int.not_le.mp (show ¬ ((w 257 i : Int) ≥ 0) from h20)
            refine e_Ok.ps1 (x := (0, 1)) (q := 60) 1 rfl ?_
            refine e_Ok.rets rfl rfl ?_
            exact ⟨_, rfl, rfl, ⟨by omega, by omega⟩⟩
        · replace h18 : (1 : Int) = 0 := Classical.not_not.mp (show ¬ ((1 : Int) ≠ 0) from h18)
          exfalso; omega
      · refine e_Ok.nrm (q := 45) (st' := [(0, 0)]) rfl rfl ?_
        refine e_Ok.if1 rfl (fun h32 => ?_) (fun h32 => ?_)
        · replace h32 : (0 : Int) ≠ 0 := h32
          exfalso; omega
        · replace h32 : (0 : Int) = 0 := Classical.not_not.mp (show ¬ ((0 : Int) ≠ 0) from h32)
          refine e_Ok.ps1 (x := (0, 0)) (q := 49) 1 rfl ?_
          refine e_Ok.rets rfl rfl ?_
          exact ⟨_, rfl, rfl, ⟨by omega, by omega⟩⟩
  · refine e_Ok.nrm (q := 21) (st' := [(0, 0)]) rfl rfl ?_
    refine e_Ok.if1 rfl (fun h33 => ?_) (fun h33 => ?_)
    · replace h33 : (0 : Int) = 0 := h33
      refine e_Ok.ps1 (x := (0, 0)) (q := 49) 1 rfl ?_
      refine e_Ok.rets rfl rfl ?_
      exact ⟨_, rfl, rfl, ⟨by omega, by omega⟩⟩
    · replace h33 : (0 : Int) ≠ 0 := (show ¬ ((0 : Int) = 0) from h33)
      exfalso; omega
theorem c_169 {d : Nat} (hd : 22 ≤ d) {w : eW} (hT : e_Has kTy w) (ka : ∀ b, 0 ≤ b → b ≤ 3 → aK w b) (koa : ∀ b, 0 ≤ b → b ≤ 3 → oK w b) : e_Ok 20 elay kcode eI d 169 (0, [(0, (1, 250)), (1, (1, 9))], [], w) (fun r w' => ∃ z : Int, r = [(0, z)] ∧ w = w' ∧ ((-1) ≤ z ∧ z ≤ 7)) := by
  obtain ⟨d, rfl⟩ : ∃ e, d = e + 1 := ⟨d - 1, by omega⟩
  refine e_Ok.run (t' := (2, [(2, (0, 0)), (0, (1, 250)), (1, (1, 9))], [], w)) 2 rfl ?_
  have hL1 : ∀ (nn : Nat) (y2 : Int), 0 ≤ y2 ∧ y2 ≤ 8 → 9 - y2 < nn → e_Ok 20 elay kcode eI (d + 1) 169 (2, [(0, (1, 250)), (1, (1, 9)), (2, (0, y2))], [], w) (fun r w' => ∃ z : Int, r = [(0, z)] ∧ w = w' ∧ ((-1) ≤ z ∧ z ≤ 7)) := by
    intro nn
    induction nn with
    | zero => intro y2 hj hm; obtain j3 := hj; exfalso; omega
    | succ nn ih2 =>
      intro y2 hj hm
      obtain j3 := hj
      refine e_Ok.run (t' := (4, [(0, (1, 250)), (1, (1, 9)), (2, (0, y2))], [(1, 250), (0, y2)], w)) 2 rfl ?_
      have h4 := (e_Has.get hT (c := 250) (k := 1) (lo := 0) (hi := 8) (kt_o rfl) (by decide))
      refine e_Ok.getf (z := w 250 1) rfl (el_o rfl) rfl rfl rfl (e_bq h4 (by decide) (by decide)) ?_
      refine e_Ok.if2 rfl (fun h5 => ?_) (fun h5 => ?_)
      · replace h5 : (y2 : Int) ≥ w 250 1 := h5
        refine e_Ok.ps1 (x := (0, (-1))) (q := 57) 1 rfl ?_
        refine e_Ok.rets rfl rfl ?_
        exact ⟨_, rfl, rfl, ⟨by omega, by omega⟩⟩
      · replace h5 : (y2 : Int) < w 250 1 := Int.not_le.mp (show ¬ ((y2 : Int) ≥ w 250 1) from h5)
        refine e_Ok.ps2 (x := (1, 250)) (y := (1, 9)) (q := 12) 2 rfl ?_
        refine e_Ok.getr (z := 256) rfl (el_o rfl) rfl rfl (e_Has.eq hT (kt_o rfl)) ⟨by decide, by decide⟩ ?_
        refine e_Ok.ps1 (x := (0, y2)) (q := 16) 1 rfl ?_
        have h6 := (e_Has.get hT (c := 256) (k := y2) (lo := 0) (hi := 3) (kt_o rfl) (by decide))
        refine e_Ok.ald (z := w 256 y2) rfl (el_o rfl) rfl (by omega) rfl (e_bq h6 (by decide) (by decide)) ?_
        refine e_Ok.aald (z := 17 * w 256 y2 + 86) rfl (el_o rfl) rfl (by omega) (Eq.trans (e_Has.eq hT (k9 (by omega))) (by omega)) (by omega) ?_
        refine e_Ok.run (t' := (22, [(4, (0, 1)), (3, (1, 17 * w 256 y2 + 86)), (0, (1, 250)), (1, (1, 9)), (2, (0, y2))], [], w)) 3 rfl ?_
        have hL7 : ∀ (nn : Nat) (y4 : Int), 1 ≤ y4 ∧ y4 ≤ 7 → 8 - y4 < nn → e_Ok 20 elay kcode eI (d + 1) 169 (22, [(0, (1, 250)), (1, (1, 9)), (2, (0, y2)), (3, (1, 17 * w 256 y2 + 86)), (4, (0, y4))], [], w) (fun r w' => ∃ z : Int, r = [(0, z)] ∧ w = w' ∧ ((-1) ≤ z ∧ z ≤ 7)) := by
          intro nn
          induction nn with
          | zero => intro y4 hj hm; obtain j9 := hj; exfalso; omega
          | succ nn ih8 =>
            intro y4 hj hm
            obtain j9 := hj
            refine e_Ok.run (t' := (25, [(0, (1, 250)), (1, (1, 9)), (2, (0, y2)), (3, (1, 17 * w 256 y2 + 86)), (4, (0, y4))], [(1, 17 * w 256 y2 + 86), (0, y4)], w)) 2 rfl ?_
            have h10 := (e_Has.get hT (c := 17 * w 256 y2 + 86) (k := 8) (lo := 0) (hi := 6) (kA_8 (a := (w 256 y2)) (by omega) (by omega)) (by decide))
            refine e_Ok.getf (z := w (17 * w 256 y2 + 86) 8) rfl (lA0 (a := (w 256 y2)) (by omega) (by omega)) rfl rfl rfl (e_bq h10 (by decide) (by decide)) ?_
            refine e_Ok.if2 rfl (fun h11 => ?_) (fun h11 => ?_)
            · replace h11 : (y4 : Int) > w (17 * w 256 y2 + 86) 8 := h11
              refine e_Ok.inc (z := y2 + 1) rfl rfl (by first | with_reducible rfl | omega) (by omega) ?_
              show e_Ok 20 elay kcode eI (d + 1) 169 (53, [(2, (0, y2 + 1)), (0, (1, 250)), (1, (1, 9)), (3, (1, 17 * w 256 y2 + 86)), (4, (0, y4))], [], w) _
              refine e_Ok.ps0 (q := 2) 1 rfl ?_
              refine e_Ok.sub kAlk (e_sub_of rfl ?_) (ih2 (y2 + 1) (by omega) (by omega))
              exact ⟨rfl, rfl, rfl, trivial⟩
            · replace h11 : (y4 : Int) ≤ w (17 * w 256 y2 + 86) 8 := Int.not_lt.mp (show ¬ ((y4 : Int) > w (17 * w 256 y2 + 86) 8) from h11)
              refine e_Ok.ps4 (x := (0, y4)) (y := (1, 17 * w 256 y2 + 86)) (z := (0, y2)) (u := (1, 250)) (q := 36) 4 rfl ?_
              refine e_Ok.callV rfl (e_dq hd rfl) rfl rfl rfl rfl (c_170 (e_dq hd rfl) (a := w 256 y2) hT (by omega) (by omega) (by omega) (ka (w 256 y2) (by omega) (by omega)) (koa (w 256 y2) (by omega) (by omega)) (by omega)) (fun r12 w13 h14 => ?_)
              obtain ⟨z16, rfl, rfl, q15r⟩ := h14
              refine e_Ok.nrm (q := 39) (st' := [(0, z16)]) rfl rfl ?_
              refine e_Ok.if1 rfl (fun h17 => ?_) (fun h17 => ?_)
              · replace h17 : (z16 : Int) = 0 := h17
                refine e_Ok.inc (z := y4 + 1) rfl rfl (by first | with_reducible rfl | omega) (by omega) ?_
                show e_Ok 20 elay kcode eI (d + 1) 169 (47, [(4, (0, y4 + 1)), (0, (1, 250)), (1, (1, 9)), (2, (0, y2)), (3, (1, 17 * w 256 y2 + 86))], [], w) _
                refine e_Ok.ps0 (q := 22) 1 rfl ?_
                refine e_Ok.sub kAlk (e_sub_of rfl ?_) (ih8 (y4 + 1) (by omega) (by omega))
                exact ⟨rfl, rfl, rfl, rfl, rfl, trivial⟩
              · replace h17 : (z16 : Int) ≠ 0 := (show ¬ ((z16 : Int) = 0) from h17)
                refine e_Ok.ps1 (x := (0, y2)) (q := 43) 1 rfl ?_
                refine e_Ok.rets rfl rfl ?_
                exact ⟨_, rfl, rfl, ⟨by omega, by omega⟩⟩
        refine e_Ok.sub kAlk (e_sub_of rfl ?_) (hL7 (8 + 1 : Int).toNat 1 (by omega) (by omega))
        exact ⟨rfl, rfl, rfl, rfl, rfl, trivial⟩
  refine e_Ok.sub kAlk (e_sub_of rfl ?_) (hL1 (9 + 1 : Int).toNat 0 (by omega) (by omega))
  exact ⟨rfl, rfl, rfl, trivial⟩
end
end
-- part c2
section
noncomputable section
/-! the class: joints and arms -/
theorem rW_b3 {g d : Int} (hg : 1 ≤ g ∧ g ≤ 2000) (hd : 0 ≤ d ∧ d ≤ 2000) (z : Int) (hz : z = (d + g - 1) / g) (q : Int) (hq : q = z * (z - 1) / 2) : 0 ≤ g * q ∧ g * q ≤ 4000000 := by
  have hb := rW_bd hg hd z hz
  have hb2 := hb.2.2.2 q hq
  have h1 : z * g ≤ d + g - 1 := by rw [hz]; exact Int.ediv_mul_le _ (by omega)
  refine ⟨hb2.2.1.1, ?_⟩
  by_cases e : z = 0
  · have q0 : q = 0 := by rw [hq, e]; rfl
    rw [q0]
    omega
  · have h2 : (z * g) * (z - 1) ≤ 3999 * 1999 := Int.mul_le_mul (by omega) (by omega) (by omega) (by decide)
    have h3 : g * (z * (z - 1)) = (z * g) * (z - 1) := by rw [← Int.mul_assoc, Int.mul_comm g z]
    have h4 : 2 * q ≤ z * (z - 1) := by omega
    have h5 : g * (2 * q) ≤ g * (z * (z - 1)) := Int.mul_le_mul_of_nonneg_left h4 (by omega)
    have h6 : g * (2 * q) = 2 * (g * q) := by rw [← Int.mul_assoc, Int.mul_comm g 2, Int.mul_assoc]
    omega
/-- a joint as it was told; and it goes as its limits allow -/
def jC (w : eW) (c : Int) : Prop := ((-100000 ≤ w c 1 ∧ w c 1 ≤ 0) ∧ (0 ≤ w c 2 ∧ w c 2 ≤ 100000)) ∧ (1 ≤ w c 5 ∧ w c 5 ≤ 2000) ∧ (1 ≤ w c 6 ∧ w c 6 ≤ 2000)
def jM (w : eW) (st c : Int) : Prop := joOk st (w c 7) (w c 8) (w c 9) (w c 1) (w c 2) (w c 6)
def aMs (w : eW) (a n st : Int) : Prop := ∀ i, 0 ≤ i → i < n → jC w (17 * a + i + 97) ∧ jM w st (17 * a + i + 97)
theorem jq.oth {w w' : eW} {st c c' k z : Int} (h : jC w c ∧ jM w st c) (hw : e_up w c' k z = w') (hn : c ≠ c') : jC w' c ∧ jM w' st c := by
  have e : ∀ i, w' c i = w c i := fun i => by rw [← hw]; exact e_up_ne _ _ (Or.inl hn)
  unfold jC jM at h ⊢
  simp only [e]
  exact h
theorem jq.step {w w1 w2 : eW} {st c d v : Int} (h : jC w c ∧ jM w st c) (h1 : e_up w c 8 d = w1) (h2 : e_up w1 c 7 v = w2) (hv : v = w c 7 + d)
    (hd : (st = 1 ∧ ((0 ≤ d ∧ (d = 0 ∨ rW (w c 6) d ≤ w c 9 - w c 7)) ∨ (d ≤ 0 ∧ (d = 0 ∨ rW (w c 6) (-d) ≤ w c 7 - w c 9)))) ∨ (st = 2 ∧ ((w c 6 < w c 8 ∧ d = w c 8 - w c 6) ∨ (w c 8 < -(w c 6) ∧ d = w c 8 + w c 6) ∨ (-(w c 6) ≤ w c 8 ∧ w c 8 ≤ w c 6 ∧ d = 0)))) : jC w2 c ∧ jM w2 st c := by
  have e : ∀ i, i ≠ 7 → i ≠ 8 → w2 c i = w c i := fun i g1 g2 => by rw [← h2, e_up_ne _ _ (Or.inr g1), ← h1]; exact e_up_ne _ _ (Or.inr g2)
  have e7 : w2 c 7 = w c 7 + d := by rw [← h2, e_up_eq, hv]
  have e8 : w2 c 8 = d := by rw [← h2, e_up_ne _ _ (Or.inr (by decide)), ← h1]; exact e_up_eq _ _ _ _
  obtain ⟨hc, hm⟩ := h
  have hg : 1 ≤ w c 6 := hc.2.2.1
  refine ⟨?_, ?_⟩
  · unfold jC at hc ⊢
    rw [e 1 (by decide) (by decide), e 2 (by decide) (by decide), e 5 (by decide) (by decide), e 6 (by decide) (by decide)]
    exact hc
  · unfold jM at hm ⊢
    rw [e 1 (by decide) (by decide), e 2 (by decide) (by decide), e 9 (by decide) (by decide), e 6 (by decide) (by decide), e7, e8]
    rcases hd with ⟨rfl, hd⟩ | ⟨rfl, hd⟩
    · exact hm.go1 hg hd
    · exact hm.slow hg hd
theorem aK.up {w w' : eW} {a c k z : Int} (h : aK w a) (hw : e_up w c k z = w') (h1 : c ≠ 17 * a + 88) (h2 : c ≠ 17 * a + 89) (h3 : ¬ (c = 17 * a + 86 ∧ k = 8)) : aK w' a := by
  have e : w' (17 * a + 86) 8 = w (17 * a + 86) 8 := by
    rw [← hw]
    refine e_up_ne _ _ ?_
    by_cases q : 17 * a + 86 = c
    · exact Or.inr (fun q2 => h3 ⟨q.symm, q2.symm⟩)
    · exact Or.inl q
  unfold aK at h ⊢
  rw [e]
  exact ⟨h.1.oth hw (fun q => h1 q.symm), h.2.oth hw (fun q => h2 q.symm)⟩
def kPl (a : Int) (c k : Int) : Prop := (c = 17 * a + 88 ∨ c = 17 * a + 89) ∧ 1 ≤ k
def kOl (a : Int) (c k : Int) : Prop := c = 17 * a + 90 ∨ c = 17 * a + 91
def kSt (a : Int) (c k : Int) : Prop := (c = 17 * a + 86 ∧ (k = 11 ∨ k = 13 ∨ k = 18)) ∨ (17 * a + 97 ≤ c ∧ c ≤ 17 * a + 102 ∧ k = 8)
def kSp (a : Int) (c k : Int) : Prop := 17 * a + 97 ≤ c ∧ c ≤ 17 * a + 102 ∧ k = 11
def kBm (a : Int) (c k : Int) : Prop := (c = 17 * a + 86 ∧ 11 ≤ k ∧ k ≤ 13) ∨ (17 * a + 97 ≤ c ∧ c ≤ 17 * a + 102 ∧ k = 10)
def kGo (a : Int) (c k : Int) : Prop := (c = 17 * a + 86 ∧ k = 12) ∨ (17 * a + 97 ≤ c ∧ c ≤ 17 * a + 102 ∧ (k = 7 ∨ k = 8)) ∨ ((c = 17 * a + 88 ∨ c = 17 * a + 89) ∧ 1 ≤ k)
theorem c_89 {d : Nat} (hd : 21 ≤ d) {w : eW} (hT : e_Has kTy w) {a j v : Int} (ga : 0 ≤ a ∧ a ≤ 3) (gj : 0 ≤ j ∧ j ≤ 5) (gv : -2147483648 ≤ v ∧ v ≤ 2147483647) : e_Ok 20 elay kcode eI d 89 (0, [(0, (1, 17 * a + j + 97)), (1, (0, v))], [], w) (fun r w' => ∃ z : Int, r = [(0, z)] ∧ w = w' ∧ ((z = 1 ∧ w (17 * a + j + 97) 1 ≤ v ∧ v ≤ w (17 * a + j + 97) 2) ∨ (z = 0 ∧ ¬ (w (17 * a + j + 97) 1 ≤ v ∧ v ≤ w (17 * a + j + 97) 2)))) := by
  obtain ⟨d, rfl⟩ : ∃ e, d = e + 1 := ⟨d - 1, by omega⟩
  refine e_Ok.ps2 (x := (1, 17 * a + j + 97)) (y := (0, v)) (q := 2) 2 rfl ?_
  have h1 := (e_Has.get hT (c := 17 * a + j + 97) (k := 1) (lo := (-2147483648)) (hi := 2147483647) (kJ_1 (a := a) (j := j) rfl ga gj) (by decide))
  refine e_Ok.getf (z := w (17 * a + j + 97) 1) rfl (lJ (a := a) (j := j) rfl ga gj) rfl rfl rfl (e_bq h1 (by decide) (by decide)) ?_
  refine e_Ok.ps1 (x := (1, 17 * a + j + 97)) (q := 6) 1 rfl ?_
  have h2 := (e_Has.get hT (c := 17 * a + j + 97) (k := 2) (lo := (-2147483648)) (hi := 2147483647) (kJ_2 (a := a) (j := j) rfl ga gj) (by decide))
  refine e_Ok.getf (z := w (17 * a + j + 97) 2) rfl (lJ (a := a) (j := j) rfl ga gj) rfl rfl rfl (e_bq h2 (by decide) (by decide)) ?_
  refine e_Ok.callS rfl (e_dq hd rfl) rfl rfl (c_242 (by omega) (by omega) (by omega)) (fun r3 w4 h5 => ?_)
  obtain ⟨z6, rfl, rfl, q7⟩ := h5
  obtain ⟨rfl, q7⟩ | ⟨rfl, q7⟩ := q7
  · refine e_Ok.nrm (q := 12) (st' := [(0, 1)]) rfl rfl ?_
    refine e_Ok.rets rfl rfl ?_
    exact ⟨_, rfl, rfl, Or.inl ⟨rfl, by omega, by omega⟩⟩
  · refine e_Ok.nrm (q := 12) (st' := [(0, 0)]) rfl rfl ?_
    refine e_Ok.rets rfl rfl ?_
    exact ⟨_, rfl, rfl, Or.inr ⟨rfl, by omega⟩⟩
theorem c_92 {d : Nat} {w : eW} (hT : e_Has kTy w) {a j : Int} (ga : 0 ≤ a ∧ a ≤ 3) (gj : 0 ≤ j ∧ j ≤ 5) {g : Int} (hg : 1 ≤ g ∧ g ≤ 2000) (hG : w (17 * a + j + 97) 6 = g) {f : Int} (hf : 0 ≤ f ∧ f ≤ 2000) : e_Ok 20 elay kcode eI d 92 (0, [(0, (1, 17 * a + j + 97)), (1, (0, f))], [], w) (fun r w' => ∃ z : Int, r = [(0, z)] ∧ w = w' ∧ (z = rW g f) ∧ -2147483648 ≤ z ∧ z ≤ 2147483647) := by
  refine e_Ok.ps1 (x := (1, 17 * a + j + 97)) (q := 1) 1 rfl ?_
  refine e_Ok.getf (z := g) rfl (lJ (a := a) (j := j) rfl ga gj) rfl rfl hG (by omega) ?_
  refine e_Ok.ps1 (x := (0, 1)) (q := 5) 1 rfl ?_
  refine e_Ok.if2 rfl (fun h1 => ?_) (fun h1 => ?_)
  · replace h1 : (g : Int) ≥ 1 := h1
    refine e_Ok.ps2 (x := (1, 17 * a + j + 97)) (y := (0, f)) (q := 12) 2 rfl ?_
    refine e_Ok.getf (z := g) rfl (lJ (a := a) (j := j) rfl ga gj) rfl rfl hG (by omega) ?_
    refine e_Ok.add (z := f + g) rfl rfl (by omega) ?_
    refine e_Ok.ps1 (x := (0, 1)) (q := 17) 1 rfl ?_
    refine e_Ok.sub' (z := f + g - 1) rfl rfl (by omega) ?_
    refine e_Ok.ps1 (x := (1, 17 * a + j + 97)) (q := 19) 1 rfl ?_
    refine e_Ok.getf (z := g) rfl (lJ (a := a) (j := j) rfl ga gj) rfl rfl hG (by omega) ?_
    refine e_Ok.divn (fun z2 hz2 => ?_) rfl (by omega) (by omega)
    replace hz2 : z2 = (f + g - 1) / g := hz2
    have hb := rW_bd (g := g) (d := f) (by omega) (by omega) z2 hz2
    refine e_Ok.run (t' := (26, [(2, (0, z2)), (0, (1, 17 * a + j + 97)), (1, (0, f))], [(0, f), (0, z2)], w)) 3 rfl ?_
    refine e_Ok.mul (z := z2 * f) rfl rfl (by omega) ?_
    refine e_Ok.ps1 (x := (1, 17 * a + j + 97)) (q := 28) 1 rfl ?_
    refine e_Ok.getf (z := g) rfl (lJ (a := a) (j := j) rfl ga gj) rfl rfl hG (by omega) ?_
    refine e_Ok.ps3 (x := (0, 1)) (y := (0, z2)) (z := (0, z2)) (q := 34) 3 rfl ?_
    refine e_Ok.sub' (z := z2 - 1) rfl rfl (by omega) ?_
    refine e_Ok.mul (z := z2 * (z2 - 1)) rfl (by omega) (by omega) ?_
    refine e_Ok.ps1 (x := (0, 2)) (q := 37) 1 rfl ?_
    refine e_Ok.divn (fun z3 hz3 => ?_) rfl (by omega) (by omega)
    replace hz3 : z3 = (z2 * (z2 - 1)) / 2 := hz3
    have z3r : 0 ≤ z3 ∧ z3 ≤ 2000000 := by omega
    have hb2 := hb.2.2.2 z3 hz3
    have hb3 := rW_b3 (g := g) (d := f) (by omega) (by omega) z2 hz2 z3 hz3
    refine e_Ok.mul (z := g * z3) rfl (by omega) (by omega) ?_
    refine e_Ok.sub' (z := z2 * f - g * z3) rfl (by omega) (by omega) ?_
    refine e_Ok.rets rfl rfl ?_
    exact ⟨_, rfl, rfl, by omega, by omega, by omega⟩
  · replace h1 : (g : Int) < 1 := Int.not_le.mp (show ¬ ((g : Int) ≥ 1) from h1)
    exfalso; omega
theorem c_90 {d : Nat} (hd : 21 ≤ d) {w : eW} (hT : e_Has kTy w) {a j : Int} (ga : 0 ≤ a ∧ a ≤ 3) (gj : 0 ≤ j ∧ j ≤ 5) {g : Int} (hg : 1 ≤ g ∧ g ≤ 2000) (hG : w (17 * a + j + 97) 6 = g) {v s go sp : Int} (hv : -100000 ≤ v ∧ v ≤ 100000) (hgo : -100000 ≤ go ∧ go ≤ 100000) (hsp : 1 ≤ sp ∧ sp ≤ 2000) (hs : -2000 ≤ s ∧ s ≤ 2000) (hV : w (17 * a + j + 97) 7 = v) (hS : w (17 * a + j + 97) 8 = s) (hGo : w (17 * a + j + 97) 9 = go) (hSp : w (17 * a + j + 97) 5 = sp) : e_Ok 20 elay kcode eI d 90 (0, [(0, (1, 17 * a + j + 97))], [], w) (fun r w' => ∃ z : Int, r = [(0, z)] ∧ w = w' ∧ (-2000 ≤ z ∧ z ≤ 2000) ∧ ((0 ≤ z ∧ (z = 0 ∨ rW g z ≤ go - v)) ∨ (z ≤ 0 ∧ (z = 0 ∨ rW g (-z) ≤ v - go)))) := by
  obtain ⟨d, rfl⟩ : ∃ e, d = e + 1 := ⟨d - 1, by omega⟩
  refine e_Ok.ps1 (x := (1, 17 * a + j + 97)) (q := 1) 1 rfl ?_
  refine e_Ok.getf (z := go) rfl (lJ (a := a) (j := j) rfl ga gj) rfl rfl hGo (by omega) ?_
  refine e_Ok.ps1 (x := (1, 17 * a + j + 97)) (q := 5) 1 rfl ?_
  refine e_Ok.getf (z := v) rfl (lJ (a := a) (j := j) rfl ga gj) rfl rfl hV (by omega) ?_
  refine e_Ok.if2 rfl (fun h1 => ?_) (fun h1 => ?_)
  · replace h1 : (go : Int) ≥ v := h1
    refine e_Ok.run (t' := (18, [(1, (0, 1)), (0, (1, 17 * a + j + 97))], [(1, 17 * a + j + 97)], w)) 3 rfl ?_
    refine e_Ok.getf (z := go) rfl (lJ (a := a) (j := j) rfl ga gj) rfl rfl hGo (by omega) ?_
    refine e_Ok.ps1 (x := (1, 17 * a + j + 97)) (q := 22) 1 rfl ?_
    refine e_Ok.getf (z := v) rfl (lJ (a := a) (j := j) rfl ga gj) rfl rfl hV (by omega) ?_
    refine e_Ok.sub' (z := go - v) rfl rfl (by omega) ?_
    refine e_Ok.ps1 (x := (0, 1)) (q := 27) 1 rfl ?_
    refine e_Ok.mul (z := go - v) rfl (by omega) (by omega) ?_
    refine e_Ok.run (t' := (29, [(2, (0, go - v)), (1, (0, 1)), (0, (1, 17 * a + j + 97))], [], w)) 1 rfl ?_
    refine e_Ok.run (t' := (33, [(3, (0, 0)), (2, (0, go - v)), (1, (0, 1)), (0, (1, 17 * a + j + 97))], [(1, 17 * a + j + 97), (0, 0)], w)) 4 rfl ?_
    refine e_Ok.getf (z := sp) rfl (lJ (a := a) (j := j) rfl ga gj) rfl rfl hSp (by omega) ?_
    refine e_Ok.ps1 (x := (1, 17 * a + j + 97)) (q := 37) 1 rfl ?_
    refine e_Ok.getf (z := s) rfl (lJ (a := a) (j := j) rfl ga gj) rfl rfl hS (by omega) ?_
    refine e_Ok.ps1 (x := (0, 1)) (q := 41) 1 rfl ?_
    refine e_Ok.mul (z := s) rfl (by omega) (by omega) ?_
    refine e_Ok.ps1 (x := (1, 17 * a + j + 97)) (q := 43) 1 rfl ?_
    refine e_Ok.getf (z := g) rfl (lJ (a := a) (j := j) rfl ga gj) rfl rfl hG (by omega) ?_
    refine e_Ok.add (z := s + g) rfl rfl (by omega) ?_
    refine e_Ok.mmin rfl rfl (fun z2 hz2 => ?_)
    replace hz2 : ((s + g) < sp ∧ z2 = s + g) ∨ (sp ≤ s + g ∧ z2 = sp) := hz2
    refine e_Ok.mmax rfl rfl (fun z3 hz3 => ?_)
    replace hz3 : (0 < z2 ∧ z3 = z2) ∨ (z2 ≤ 0 ∧ z3 = 0) := hz3
    refine e_Ok.run (t' := (58, [(5, (0, 0)), (4, (0, z3)), (3, (0, 0)), (2, (0, go - v)), (1, (0, 1)), (0, (1, 17 * a + j + 97))], [], w)) 3 rfl ?_
    have hL4 : ∀ (nn : Nat) (y3 : Int) (y4 : Int) (y5 : Int), (0 ≤ y3 ∧ y3 ≤ 2000) ∧ (-2147483648 ≤ y4 ∧ y4 ≤ 2000) ∧ (0 ≤ y5 ∧ y5 ≤ 12) ∧ (y3 = 0 ∨ rW g y3 ≤ go - v) → 12 - y5 < nn → e_Ok 20 elay kcode eI (d + 1) 90 (58, [(0, (1, 17 * a + j + 97)), (1, (0, 1)), (2, (0, go - v)), (3, (0, y3)), (4, (0, y4)), (5, (0, y5))], [], w) (fun r w' => ∃ z : Int, r = [(0, z)] ∧ w = w' ∧ (-2000 ≤ z ∧ z ≤ 2000) ∧ ((0 ≤ z ∧ (z = 0 ∨ rW g z ≤ go - v)) ∨ (z ≤ 0 ∧ (z = 0 ∨ rW g (-z) ≤ v - go)))) := by
      intro nn
      induction nn with
      | zero => intro y3 y4 y5 hj hm; obtain ⟨j6, j7, j8, j9⟩ := hj; exfalso; omega
      | succ nn ih5 =>
        intro y3 y4 y5 hj hm
        obtain ⟨j6, j7, j8, j9⟩ := hj
        refine e_Ok.run (t' := (62, [(0, (1, 17 * a + j + 97)), (1, (0, 1)), (2, (0, go - v)), (3, (0, y3)), (4, (0, y4)), (5, (0, y5))], [(0, 12), (0, y5)], w)) 2 rfl ?_
        refine e_Ok.if2 rfl (fun h10 => ?_) (fun h10 => ?_)
        · replace h10 : (y5 : Int) ≥ 12 := h10
          refine e_Ok.ps2 (x := (0, 1)) (y := (0, y3)) (q := 111) 2 rfl ?_
          refine e_Ok.mul (z := y3) rfl (by omega) (by omega) ?_
          refine e_Ok.rets rfl rfl ?_
          exact ⟨_, rfl, rfl, by omega, Or.inl ⟨by omega, by omega⟩⟩
        · replace h10 : (y5 : Int) < 12 := Int.not_le.mp (show ¬ ((y5 : Int) ≥ 12) from h10)
          refine e_Ok.ps2 (x := (0, y4)) (y := (0, y3)) (q := 68) 2 rfl ?_
          refine e_Ok.if2 rfl (fun h11 => ?_) (fun h11 => ?_)
          · replace h11 : (y3 : Int) ≥ y4 := h11
            refine e_Ok.ps2 (x := (0, 1)) (y := (0, y3)) (q := 111) 2 rfl ?_
            refine e_Ok.mul (z := y3) rfl (by omega) (by omega) ?_
            refine e_Ok.rets rfl rfl ?_
            exact ⟨_, rfl, rfl, by omega, Or.inl ⟨by omega, by omega⟩⟩
          · replace h11 : (y3 : Int) < y4 := Int.not_le.mp (show ¬ ((y3 : Int) ≥ y4) from h11)
            refine e_Ok.ps2 (x := (0, y4)) (y := (0, y3)) (q := 74) 2 rfl ?_
            refine e_Ok.add (z := y3 + y4) rfl rfl (by omega) ?_
            refine e_Ok.ps1 (x := (0, 1)) (q := 76) 1 rfl ?_
            refine e_Ok.add (z := y3 + y4 + 1) rfl rfl (by omega) ?_
            refine e_Ok.ps1 (x := (0, 2)) (q := 78) 1 rfl ?_
            refine e_Ok.divn (fun z12 hz12 => ?_) rfl (by omega) (by omega)
            replace hz12 : z12 = (y3 + y4 + 1) / 2 := hz12
            have z12r : 1 ≤ z12 ∧ z12 ≤ 2000 := by omega
            refine e_Ok.run (t' := (84, [(6, (0, z12)), (0, (1, 17 * a + j + 97)), (1, (0, 1)), (2, (0, go - v)), (3, (0, y3)), (4, (0, y4)), (5, (0, y5))], [(0, z12), (1, 17 * a + j + 97)], w)) 3 rfl ?_
            refine e_Ok.callV rfl (e_dq hd rfl) rfl (lJ (a := a) (j := j) rfl ga gj) rfl rfl (c_92 (a := a) (j := j) hT (by omega) (by omega) (g := g) (by omega) hG (by omega)) (fun r13 w14 h15 => ?_)
            obtain ⟨z16, rfl, rfl, q17, q17r⟩ := h15
            refine e_Ok.nrm (q := 87) (st' := [(0, z16)]) rfl rfl ?_
            refine e_Ok.ps1 (x := (0, go - v)) (q := 88) 1 rfl ?_
            refine e_Ok.if2 rfl (fun h18 => ?_) (fun h18 => ?_)
            · replace h18 : (z16 : Int) > go - v := h18
              refine e_Ok.ps2 (x := (0, 1)) (y := (0, z12)) (q := 100) 2 rfl ?_
              refine e_Ok.sub' (z := z12 - 1) rfl rfl (by omega) ?_
              refine e_Ok.run (t' := (103, [(4, (0, z12 - 1)), (6, (0, z12)), (0, (1, 17 * a + j + 97)), (1, (0, 1)), (2, (0, go - v)), (3, (0, y3)), (5, (0, y5))], [], w)) 1 rfl ?_
              refine e_Ok.inc (z := y5 + 1) rfl rfl (by first | with_reducible rfl | omega) (by omega) ?_
              show e_Ok 20 elay kcode eI (d + 1) 90 (106, [(5, (0, y5 + 1)), (4, (0, z12 - 1)), (6, (0, z12)), (0, (1, 17 * a + j + 97)), (1, (0, 1)), (2, (0, go - v)), (3, (0, y3))], [], w) _
              refine e_Ok.ps0 (q := 58) 1 rfl ?_
              refine e_Ok.sub kAlk (e_sub_of rfl ?_) (ih5 y3 (z12 - 1) (y5 + 1) ⟨by omega, by omega, by omega, by omega⟩ (by omega))
              exact ⟨rfl, rfl, rfl, rfl, rfl, rfl, trivial⟩
            · replace h18 : (z16 : Int) ≤ go - v := Int.not_lt.mp (show ¬ ((z16 : Int) > go - v) from h18)
              refine e_Ok.run (t' := (103, [(3, (0, z12)), (6, (0, z12)), (0, (1, 17 * a + j + 97)), (1, (0, 1)), (2, (0, go - v)), (4, (0, y4)), (5, (0, y5))], [], w)) 3 rfl ?_
              refine e_Ok.inc (z := y5 + 1) rfl rfl (by first | with_reducible rfl | omega) (by omega) ?_
              show e_Ok 20 elay kcode eI (d + 1) 90 (106, [(5, (0, y5 + 1)), (3, (0, z12)), (6, (0, z12)), (0, (1, 17 * a + j + 97)), (1, (0, 1)), (2, (0, go - v)), (4, (0, y4))], [], w) _
              refine e_Ok.ps0 (q := 58) 1 rfl ?_
              refine e_Ok.sub kAlk (e_sub_of rfl ?_) (ih5 z12 y4 (y5 + 1) ⟨by omega, by omega, by omega, by omega⟩ (by omega))
              exact ⟨rfl, rfl, rfl, rfl, rfl, rfl, trivial⟩
    refine e_Ok.sub kAlk (e_sub_of rfl ?_) (hL4 (12 + 1 : Int).toNat 0 z3 0 ⟨by omega, by omega, by omega, by omega⟩ (by omega))
    exact ⟨rfl, rfl, rfl, rfl, rfl, rfl, trivial⟩
  · replace h1 : (go : Int) < v := Int.not_le.mp (show ¬ ((go : Int) ≥ v) from h1)
    refine e_Ok.run (t' := (18, [(1, (0, (-1))), (0, (1, 17 * a + j + 97))], [(1, 17 * a + j + 97)], w)) 4 rfl ?_
    refine e_Ok.getf (z := go) rfl (lJ (a := a) (j := j) rfl ga gj) rfl rfl hGo (by omega) ?_
    refine e_Ok.ps1 (x := (1, 17 * a + j + 97)) (q := 22) 1 rfl ?_
    refine e_Ok.getf (z := v) rfl (lJ (a := a) (j := j) rfl ga gj) rfl rfl hV (by omega) ?_
    refine e_Ok.sub' (z := go - v) rfl rfl (by omega) ?_
    refine e_Ok.ps1 (x := (0, (-1))) (q := 27) 1 rfl ?_
    refine e_Ok.mul (z := -go + v) rfl (by omega) (by omega) ?_
    refine e_Ok.run (t' := (29, [(2, (0, -go + v)), (1, (0, (-1))), (0, (1, 17 * a + j + 97))], [], w)) 1 rfl ?_
    refine e_Ok.run (t' := (33, [(3, (0, 0)), (2, (0, -go + v)), (1, (0, (-1))), (0, (1, 17 * a + j + 97))], [(1, 17 * a + j + 97), (0, 0)], w)) 4 rfl ?_
    refine e_Ok.getf (z := sp) rfl (lJ (a := a) (j := j) rfl ga gj) rfl rfl hSp (by omega) ?_
    refine e_Ok.ps1 (x := (1, 17 * a + j + 97)) (q := 37) 1 rfl ?_
    refine e_Ok.getf (z := s) rfl (lJ (a := a) (j := j) rfl ga gj) rfl rfl hS (by omega) ?_
    refine e_Ok.ps1 (x := (0, (-1))) (q := 41) 1 rfl ?_
    refine e_Ok.mul (z := -s) rfl (by omega) (by omega) ?_
    refine e_Ok.ps1 (x := (1, 17 * a + j + 97)) (q := 43) 1 rfl ?_
    refine e_Ok.getf (z := g) rfl (lJ (a := a) (j := j) rfl ga gj) rfl rfl hG (by omega) ?_
    refine e_Ok.add (z := -s + g) rfl rfl (by omega) ?_
    refine e_Ok.mmin rfl rfl (fun z19 hz19 => ?_)
    replace hz19 : ((-s + g) < sp ∧ z19 = -s + g) ∨ (sp ≤ -s + g ∧ z19 = sp) := hz19
    refine e_Ok.mmax rfl rfl (fun z20 hz20 => ?_)
    replace hz20 : (0 < z19 ∧ z20 = z19) ∨ (z19 ≤ 0 ∧ z20 = 0) := hz20
    refine e_Ok.run (t' := (58, [(5, (0, 0)), (4, (0, z20)), (3, (0, 0)), (2, (0, -go + v)), (1, (0, (-1))), (0, (1, 17 * a + j + 97))], [], w)) 3 rfl ?_
    have hL21 : ∀ (nn : Nat) (y3 : Int) (y4 : Int) (y5 : Int), (0 ≤ y3 ∧ y3 ≤ 2000) ∧ (-2147483648 ≤ y4 ∧ y4 ≤ 2000) ∧ (0 ≤ y5 ∧ y5 ≤ 12) ∧ (y3 = 0 ∨ rW g y3 ≤ -go + v) → 12 - y5 < nn → e_Ok 20 elay kcode eI (d + 1) 90 (58, [(0, (1, 17 * a + j + 97)), (1, (0, (-1))), (2, (0, -go + v)), (3, (0, y3)), (4, (0, y4)), (5, (0, y5))], [], w) (fun r w' => ∃ z : Int, r = [(0, z)] ∧ w = w' ∧ (-2000 ≤ z ∧ z ≤ 2000) ∧ ((0 ≤ z ∧ (z = 0 ∨ rW g z ≤ go - v)) ∨ (z ≤ 0 ∧ (z = 0 ∨ rW g (-z) ≤ v - go)))) := by
      intro nn
      induction nn with
      | zero => intro y3 y4 y5 hj hm; obtain ⟨j23, j24, j25, j26⟩ := hj; exfalso; omega
      | succ nn ih22 =>
        intro y3 y4 y5 hj hm
        obtain ⟨j23, j24, j25, j26⟩ := hj
        refine e_Ok.run (t' := (62, [(0, (1, 17 * a + j + 97)), (1, (0, (-1))), (2, (0, -go + v)), (3, (0, y3)), (4, (0, y4)), (5, (0, y5))], [(0, 12), (0, y5)], w)) 2 rfl ?_
        refine e_Ok.if2 rfl (fun h27 => ?_) (fun h27 => ?_)
        · replace h27 : (y5 : Int) ≥ 12 := h27
          refine e_Ok.ps2 (x := (0, (-1))) (y := (0, y3)) (q := 111) 2 rfl ?_
          refine e_Ok.mul (z := -y3) rfl (by omega) (by omega) ?_
          refine e_Ok.rets rfl rfl ?_
          exact ⟨_, rfl, rfl, by omega, Or.inr ⟨by omega, by rw [show (-(-y3) : Int) = y3 by omega]; omega⟩⟩
        · replace h27 : (y5 : Int) < 12 := Int.not_le.mp (show ¬ ((y5 : Int) ≥ 12) from h27)
          refine e_Ok.ps2 (x := (0, y4)) (y := (0, y3)) (q := 68) 2 rfl ?_
          refine e_Ok.if2 rfl (fun h28 => ?_) (fun h28 => ?_)
          · replace h28 : (y3 : Int) ≥ y4 := h28
            refine e_Ok.ps2 (x := (0, (-1))) (y := (0, y3)) (q := 111) 2 rfl ?_
            refine e_Ok.mul (z := -y3) rfl (by omega) (by omega) ?_
            refine e_Ok.rets rfl rfl ?_
            exact ⟨_, rfl, rfl, by omega, Or.inr ⟨by omega, by rw [show (-(-y3) : Int) = y3 by omega]; omega⟩⟩
          · replace h28 : (y3 : Int) < y4 := Int.not_le.mp (show ¬ ((y3 : Int) ≥ y4) from h28)
            refine e_Ok.ps2 (x := (0, y4)) (y := (0, y3)) (q := 74) 2 rfl ?_
            refine e_Ok.add (z := y3 + y4) rfl rfl (by omega) ?_
            refine e_Ok.ps1 (x := (0, 1)) (q := 76) 1 rfl ?_
            refine e_Ok.add (z := y3 + y4 + 1) rfl rfl (by omega) ?_
            refine e_Ok.ps1 (x := (0, 2)) (q := 78) 1 rfl ?_
            refine e_Ok.divn (fun z29 hz29 => ?_) rfl (by omega) (by omega)
            replace hz29 : z29 = (y3 + y4 + 1) / 2 := hz29
            have z29r : 1 ≤ z29 ∧ z29 ≤ 2000 := by omega
            refine e_Ok.run (t' := (84, [(6, (0, z29)), (0, (1, 17 * a + j + 97)), (1, (0, (-1))), (2, (0, -go + v)), (3, (0, y3)), (4, (0, y4)), (5, (0, y5))], [(0, z29), (1, 17 * a + j + 97)], w)) 3 rfl ?_
            refine e_Ok.callV rfl (e_dq hd rfl) rfl (lJ (a := a) (j := j) rfl ga gj) rfl rfl (c_92 (a := a) (j := j) hT (by omega) (by omega) (g := g) (by omega) hG (by omega)) (fun r30 w31 h32 => ?_)
            obtain ⟨z33, rfl, rfl, q34, q34r⟩ := h32
            refine e_Ok.nrm (q := 87) (st' := [(0, z33)]) rfl rfl ?_
            refine e_Ok.ps1 (x := (0, -go + v)) (q := 88) 1 rfl ?_
            refine e_Ok.if2 rfl (fun h35 => ?_) (fun h35 => ?_)
            · replace h35 : (z33 : Int) > -go + v := h35
              refine e_Ok.ps2 (x := (0, 1)) (y := (0, z29)) (q := 100) 2 rfl ?_
              refine e_Ok.sub' (z := z29 - 1) rfl rfl (by omega) ?_
              refine e_Ok.run (t' := (103, [(4, (0, z29 - 1)), (6, (0, z29)), (0, (1, 17 * a + j + 97)), (1, (0, (-1))), (2, (0, -go + v)), (3, (0, y3)), (5, (0, y5))], [], w)) 1 rfl ?_
              refine e_Ok.inc (z := y5 + 1) rfl rfl (by first | with_reducible rfl | omega) (by omega) ?_
              show e_Ok 20 elay kcode eI (d + 1) 90 (106, [(5, (0, y5 + 1)), (4, (0, z29 - 1)), (6, (0, z29)), (0, (1, 17 * a + j + 97)), (1, (0, (-1))), (2, (0, -go + v)), (3, (0, y3))], [], w) _
              refine e_Ok.ps0 (q := 58) 1 rfl ?_
              refine e_Ok.sub kAlk (e_sub_of rfl ?_) (ih22 y3 (z29 - 1) (y5 + 1) ⟨by omega, by omega, by omega, by omega⟩ (by omega))
              exact ⟨rfl, rfl, rfl, rfl, rfl, rfl, trivial⟩
            · replace h35 : (z33 : Int) ≤ -go + v := Int.not_lt.mp (show ¬ ((z33 : Int) > -go + v) from h35)
              refine e_Ok.run (t' := (103, [(3, (0, z29)), (6, (0, z29)), (0, (1, 17 * a + j + 97)), (1, (0, (-1))), (2, (0, -go + v)), (4, (0, y4)), (5, (0, y5))], [], w)) 3 rfl ?_
              refine e_Ok.inc (z := y5 + 1) rfl rfl (by first | with_reducible rfl | omega) (by omega) ?_
              show e_Ok 20 elay kcode eI (d + 1) 90 (106, [(5, (0, y5 + 1)), (3, (0, z29)), (6, (0, z29)), (0, (1, 17 * a + j + 97)), (1, (0, (-1))), (2, (0, -go + v)), (4, (0, y4))], [], w) _
              refine e_Ok.ps0 (q := 58) 1 rfl ?_
              refine e_Ok.sub kAlk (e_sub_of rfl ?_) (ih22 z29 y4 (y5 + 1) ⟨by omega, by omega, by omega, by omega⟩ (by omega))
              exact ⟨rfl, rfl, rfl, rfl, rfl, rfl, trivial⟩
    refine e_Ok.sub kAlk (e_sub_of rfl ?_) (hL21 (12 + 1 : Int).toNat 0 z20 0 ⟨by omega, by omega, by omega, by omega⟩ (by omega))
    exact ⟨rfl, rfl, rfl, rfl, rfl, rfl, trivial⟩
theorem c_91 {d : Nat} {w : eW} (hT : e_Has kTy w) {a j : Int} (ga : 0 ≤ a ∧ a ≤ 3) (gj : 0 ≤ j ∧ j ≤ 5) {g : Int} (hg : 1 ≤ g ∧ g ≤ 2000) (hG : w (17 * a + j + 97) 6 = g) {s : Int} (hs : -2000 ≤ s ∧ s ≤ 2000) (hS : w (17 * a + j + 97) 8 = s) : e_Ok 20 elay kcode eI d 91 (0, [(0, (1, 17 * a + j + 97))], [], w) (fun r w' => ∃ z : Int, r = [(0, z)] ∧ w = w' ∧ (-2000 ≤ z ∧ z ≤ 2000) ∧ ((g < s ∧ z = s - g) ∨ (s < -g ∧ z = s + g) ∨ (-g ≤ s ∧ s ≤ g ∧ z = 0))) := by
  refine e_Ok.ps1 (x := (1, 17 * a + j + 97)) (q := 1) 1 rfl ?_
  refine e_Ok.getf (z := s) rfl (lJ (a := a) (j := j) rfl ga gj) rfl rfl hS (by omega) ?_
  refine e_Ok.if1 rfl (fun h1 => ?_) (fun h1 => ?_)
  · replace h1 : (s : Int) ≤ 0 := h1
    refine e_Ok.ps2 (x := (1, 17 * a + j + 97)) (y := (0, 0)) (q := 23) 2 rfl ?_
    refine e_Ok.getf (z := s) rfl (lJ (a := a) (j := j) rfl ga gj) rfl rfl hS (by omega) ?_
    refine e_Ok.ps1 (x := (1, 17 * a + j + 97)) (q := 27) 1 rfl ?_
    refine e_Ok.getf (z := g) rfl (lJ (a := a) (j := j) rfl ga gj) rfl rfl hG (by omega) ?_
    refine e_Ok.add (z := s + g) rfl rfl (by omega) ?_
    refine e_Ok.mmin rfl rfl (fun z2 hz2 => ?_)
    replace hz2 : ((s + g) < 0 ∧ z2 = s + g) ∨ (0 ≤ s + g ∧ z2 = 0) := hz2
    refine e_Ok.rets rfl rfl ?_
    exact ⟨_, rfl, rfl, by omega, by omega⟩
  · replace h1 : (s : Int) > 0 := Int.not_le.mp (show ¬ ((s : Int) ≤ 0) from h1)
    refine e_Ok.ps2 (x := (1, 17 * a + j + 97)) (y := (0, 0)) (q := 9) 2 rfl ?_
    refine e_Ok.getf (z := s) rfl (lJ (a := a) (j := j) rfl ga gj) rfl rfl hS (by omega) ?_
    refine e_Ok.ps1 (x := (1, 17 * a + j + 97)) (q := 13) 1 rfl ?_
    refine e_Ok.getf (z := g) rfl (lJ (a := a) (j := j) rfl ga gj) rfl rfl hG (by omega) ?_
    refine e_Ok.sub' (z := s - g) rfl rfl (by omega) ?_
    refine e_Ok.mmax rfl rfl (fun z3 hz3 => ?_)
    replace hz3 : (0 < s - g ∧ z3 = s - g) ∨ ((s - g) ≤ 0 ∧ z3 = 0) := hz3
    refine e_Ok.rets rfl rfl ?_
    exact ⟨_, rfl, rfl, by omega, by omega⟩
theorem no_c2_0 {a : Int} (ha : 0 ≤ a ∧ a ≤ 3) : ¬ kPl a (17 * a + 86) 8 := by unfold kPl; omega
theorem no_c2_1 {a : Int} (ha : 0 ≤ a ∧ a ≤ 3) : ¬ kPl a (17 * a + 86) 1 := by unfold kPl; omega
theorem no_c2_2 {a : Int} (ha : 0 ≤ a ∧ a ≤ 3) : ¬ kPl a (17 * a + 86) 2 := by unfold kPl; omega
theorem no_c2_3 {a : Int} (ha : 0 ≤ a ∧ a ≤ 3) : ¬ kPl a (17 * a + 86) 0 := by unfold kPl; omega
theorem c_10 {d : Nat} (hd : 22 ≤ d) {w : eW} (hT : e_Has kTy w) {a : Int} (g_a : 0 ≤ a ∧ a ≤ 3) (hx : kn1 (w (17 * a + 88) 0)) (hy : kn1 (w (17 * a + 89) 0)) : e_Ok 20 elay kcode eI d 10 (0, [(0, (1, 17 * a + 86))], [], w) (fun r w' => r = [] ∧ e_fr (kPl a) w w' ∧ e_Has kTy w' ∧ aK w' a) := by
  obtain ⟨d, rfl⟩ : ∃ e, d = e + 1 := ⟨d - 1, by omega⟩
  have hjn := kn_joints hT (a := a) (by omega)
  have hx0 := hx
  have hy0 := hy
  unfold kn1 at hx hy
  refine e_Ok.ps1 (x := (1, 17 * a + 86)) (q := 1) 1 rfl ?_
  refine e_Ok.getr (z := 17 * a + 88) rfl (lA0 (a := a) rfl g_a) rfl rfl (Eq.trans (e_Has.eq hT (kA_1 (a := a) rfl g_a)) (by omega)) (by omega) ?_
  refine e_Ok.ps1 (x := (0, 0)) (q := 5) 1 rfl ?_
  have h1 := ((fun i g1 g2 => by rw [show i = 0 by omega]; exact hx0 : e_kn w (17 * a + 88) 0 0) 0 (by omega) (by omega))
  refine e_Ok.ald (z := w (17 * a + 88) 0) rfl (lA2 (a := a) rfl g_a) rfl (by omega) rfl (by omega) ?_
  refine e_Ok.run (t' := (9, [(0, (1, 17 * a + 86))], [(0, 20), (4, w (17 * a + 88) 0)], w)) 2 rfl ?_
  refine e_Ok.anyS rfl ⟨_, rfl⟩ (fun x2 => ?_)
  refine e_Ok.run (t' := (12, [(1, (4, x2)), (0, (1, 17 * a + 86))], [(1, 17 * a + 86)], w)) 2 rfl ?_
  refine e_Ok.getr (z := 17 * a + 89) rfl (lA0 (a := a) rfl g_a) rfl rfl (Eq.trans (e_Has.eq hT (kA_2 (a := a) rfl g_a)) (by omega)) (by omega) ?_
  refine e_Ok.ps1 (x := (0, 0)) (q := 16) 1 rfl ?_
  have h3 := ((fun i g1 g2 => by rw [show i = 0 by omega]; exact hy0 : e_kn w (17 * a + 89) 0 0) 0 (by omega) (by omega))
  refine e_Ok.ald (z := w (17 * a + 89) 0) rfl (lA3 (a := a) rfl g_a) rfl (by omega) rfl (by omega) ?_
  refine e_Ok.run (t' := (20, [(1, (4, x2)), (0, (1, 17 * a + 86))], [(0, 20), (4, w (17 * a + 89) 0)], w)) 2 rfl ?_
  refine e_Ok.anyS rfl ⟨_, rfl⟩ (fun x4 => ?_)
  refine e_Ok.run (t' := (23, [(3, (4, x4)), (1, (4, x2)), (0, (1, 17 * a + 86))], [(1, 17 * a + 86)], w)) 2 rfl ?_
  have h5 := (e_Has.get hT (c := 17 * a + 86) (k := 9) (lo := (-2147483648)) (hi := 2147483647) (kA_9 (a := a) rfl g_a) (by decide))
  refine e_Ok.getf (z := w (17 * a + 86) 9) rfl (lA0 (a := a) rfl g_a) rfl rfl rfl (e_bq h5 (by decide) (by decide)) ?_
  refine e_Ok.run (t' := (31, [(6, (0, 0)), (5, (0, w (17 * a + 86) 9)), (3, (4, x4)), (1, (4, x2)), (0, (1, 17 * a + 86))], [], w)) 3 rfl ?_
  have hL6 : ∀ (nn : Nat) (y1 : Int) (y3 : Int) (y5 : Int) (y6 : Int) (v1 : eW), e_fr (kPl a) w v1 ∧ e_Has kTy v1 ∧ e_kn v1 (17 * a + 88) 0 y6 ∧ e_kn v1 (17 * a + 89) 0 y6 ∧ y6 ≤ w (17 * a + 86) 8 ∧ ((-2147483648) ≤ y5 ∧ y5 ≤ 2147483647) ∧ (0 ≤ y6 ∧ y6 ≤ 6) → 6 - y6 < nn → e_Ok 20 elay kcode eI (d + 1) 10 (31, [(0, (1, 17 * a + 86)), (1, (4, y1)), (3, (4, y3)), (5, (0, y5)), (6, (0, y6))], [], v1) (fun r w' => r = [] ∧ e_fr (kPl a) w w' ∧ e_Has kTy w' ∧ aK w' a) := by
    intro nn
    induction nn with
    | zero => intro y1 y3 y5 y6 v1 hj hm; obtain ⟨j8, j9, j10, j11, j12, j13, j14⟩ := hj; exfalso; omega
    | succ nn ih7 =>
      intro y1 y3 y5 y6 v1 hj hm
      obtain ⟨j8, j9, j10, j11, j12, j13, j14⟩ := hj
      have l15 : v1 (17 * a + 86) 8 = w (17 * a + 86) 8 := j8 (17 * a + 86) 8 (by first | exact no_c2_0 (by omega) | (unfold kPl; omega))
      refine e_Ok.run (t' := (34, [(0, (1, 17 * a + 86)), (1, (4, y1)), (3, (4, y3)), (5, (0, y5)), (6, (0, y6))], [(1, 17 * a + 86), (0, y6)], v1)) 2 rfl ?_
      have h16 := (e_Has.get hT (c := 17 * a + 86) (k := 8) (lo := 0) (hi := 6) (kA_8 (a := a) rfl g_a) (by decide))
      refine e_Ok.getf (z := w (17 * a + 86) 8) rfl (lA0 (a := a) rfl g_a) rfl rfl ((j8 (17 * a + 86) 8 (by first | exact no_c2_0 (by omega) | (unfold kPl; omega))).trans rfl) (e_bq h16 (by decide) (by decide)) ?_
      refine e_Ok.if2 rfl (fun h17 => ?_) (fun h17 => ?_)
      · replace h17 : (y6 : Int) ≥ w (17 * a + 86) 8 := h17
        refine e_Ok.ps1 (x := (1, 17 * a + 86)) (q := 167) 1 rfl ?_
        refine e_Ok.getr (z := 17 * a + 88) rfl (lA0 (a := a) rfl g_a) rfl rfl ((j8 (17 * a + 86) 1 (by first | exact no_c2_1 (by omega) | (unfold kPl; omega))).trans (Eq.trans (e_Has.eq hT (kA_1 (a := a) rfl g_a)) (by omega))) (by omega) ?_
        refine e_Ok.ps1 (x := (1, 17 * a + 86)) (q := 171) 1 rfl ?_
        refine e_Ok.getf (z := w (17 * a + 86) 8) rfl (lA0 (a := a) rfl g_a) rfl rfl ((j8 (17 * a + 86) 8 (by first | exact no_c2_0 (by omega) | (unfold kPl; omega))).trans rfl) (by omega) ?_
        refine e_Ok.ps1 (x := (0, 1)) (q := 175) 1 rfl ?_
        refine e_Ok.add (z := w (17 * a + 86) 8 + 1) rfl rfl (by omega) ?_
        refine e_Ok.ps1 (x := (1, 17 * a + 86)) (q := 177) 1 rfl ?_
        refine e_Ok.getr (z := 17 * a + 88) rfl (lA0 (a := a) rfl g_a) rfl rfl ((j8 (17 * a + 86) 1 (by first | exact no_c2_1 (by omega) | (unfold kPl; omega))).trans (Eq.trans (e_Has.eq hT (kA_1 (a := a) rfl g_a)) (by omega))) (by omega) ?_
        refine e_Ok.ps1 (x := (1, 17 * a + 86)) (q := 181) 1 rfl ?_
        refine e_Ok.getf (z := w (17 * a + 86) 8) rfl (lA0 (a := a) rfl g_a) rfl rfl ((j8 (17 * a + 86) 8 (by first | exact no_c2_0 (by omega) | (unfold kPl; omega))).trans rfl) (by omega) ?_
        have h18 := (j10 (w (17 * a + 86) 8) (by omega) (by omega))
        refine e_Ok.ald (z := v1 (17 * a + 88) (w (17 * a + 86) 8)) rfl (lA2 (a := a) rfl g_a) rfl (by omega) rfl (by omega) ?_
        refine e_Ok.ast rfl (lA2 (a := a) rfl g_a) rfl rfl (by omega) ?_
        generalize hw19 : e_up v1 (17 * a + 88) (w (17 * a + 86) 8 + 1) (v1 (17 * a + 88) (w (17 * a + 86) 8)) = w19
        have f20 : e_fr (kPl a) w w19 := e_fr.up j8 hw19 (by first | exact ⟨Or.inl (by omega), (by omega)⟩ | (unfold kPl; omega))
        have l21 : w19 (17 * a + 86) 8 = w (17 * a + 86) 8 := f20 (17 * a + 86) 8 (by first | exact no_c2_0 (by omega) | (unfold kPl; omega))
        have hT22 : e_Has kTy w19 := e_Has.ups j9 hw19 (kA88 (a := a) _ rfl g_a)
        refine e_Ok.ps1 (x := (1, 17 * a + 86)) (q := 187) 1 rfl ?_
        refine e_Ok.getr (z := 17 * a + 89) rfl (lA0 (a := a) rfl g_a) rfl rfl (e_uq hw19 (Or.inl (e_neo (by decide))) ((j8 (17 * a + 86) 2 (by first | exact no_c2_2 (by omega) | (unfold kPl; omega))).trans (Eq.trans (e_Has.eq hT (kA_2 (a := a) rfl g_a)) (by omega)))) (by omega) ?_
        refine e_Ok.ps1 (x := (1, 17 * a + 86)) (q := 191) 1 rfl ?_
        refine e_Ok.getf (z := w (17 * a + 86) 8) rfl (lA0 (a := a) rfl g_a) rfl rfl (e_uq hw19 (Or.inl (e_neo (by decide))) ((j8 (17 * a + 86) 8 (by first | exact no_c2_0 (by omega) | (unfold kPl; omega))).trans rfl)) (by omega) ?_
        refine e_Ok.ps1 (x := (0, 1)) (q := 195) 1 rfl ?_
        refine e_Ok.add (z := w (17 * a + 86) 8 + 1) rfl rfl (by omega) ?_
        refine e_Ok.ps1 (x := (1, 17 * a + 86)) (q := 197) 1 rfl ?_
        refine e_Ok.getr (z := 17 * a + 89) rfl (lA0 (a := a) rfl g_a) rfl rfl (e_uq hw19 (Or.inl (e_neo (by decide))) ((j8 (17 * a + 86) 2 (by first | exact no_c2_2 (by omega) | (unfold kPl; omega))).trans (Eq.trans (e_Has.eq hT (kA_2 (a := a) rfl g_a)) (by omega)))) (by omega) ?_
        refine e_Ok.ps1 (x := (1, 17 * a + 86)) (q := 201) 1 rfl ?_
        refine e_Ok.getf (z := w (17 * a + 86) 8) rfl (lA0 (a := a) rfl g_a) rfl rfl (e_uq hw19 (Or.inl (e_neo (by decide))) ((j8 (17 * a + 86) 8 (by first | exact no_c2_0 (by omega) | (unfold kPl; omega))).trans rfl)) (by omega) ?_
        have h23 := (j11 (w (17 * a + 86) 8) (by omega) (by omega))
        refine e_Ok.ald (z := v1 (17 * a + 89) (w (17 * a + 86) 8)) rfl (lA3 (a := a) rfl g_a) rfl (by omega) (e_uq hw19 (Or.inl (e_neo (by decide))) rfl) (by omega) ?_
        refine e_Ok.ast rfl (lA3 (a := a) rfl g_a) rfl rfl (by omega) ?_
        generalize hw24 : e_up w19 (17 * a + 89) (w (17 * a + 86) 8 + 1) (v1 (17 * a + 89) (w (17 * a + 86) 8)) = w24
        have f25 : e_fr (kPl a) w w24 := e_fr.up f20 hw24 (by first | exact ⟨Or.inr (by omega), (by omega)⟩ | (unfold kPl; omega))
        have l26 : w24 (17 * a + 86) 8 = w (17 * a + 86) 8 := f25 (17 * a + 86) 8 (by first | exact no_c2_0 (by omega) | (unfold kPl; omega))
        have hT27 : e_Has kTy w24 := e_Has.ups hT22 hw24 (kA89 (a := a) _ rfl g_a)
        refine e_Ok.rets rfl rfl ?_
        exact ⟨rfl, f25, hT27, (by unfold aK; rw [(show w24 (17 * a + 86) 8 = w (17 * a + 86) 8 from f25 _ _ (by unfold kPl; omega))]; exact ⟨e_kn_sub (e_kn.oth (e_kn.ext (e_kn_sub (a' := 0) (b' := y6) j10 (by omega) (by omega)) hw19 (by omega) (by omega)) hw24 (by omega)) (by omega) (by omega), e_kn_sub (e_kn.ext (e_kn.oth (e_kn_sub (a' := 0) (b' := y6) j11 (by omega) (by omega)) hw19 (by omega)) hw24 (by omega) (by omega)) (by omega) (by omega)⟩)⟩
      · replace h17 : (y6 : Int) < w (17 * a + 86) 8 := Int.not_le.mp (show ¬ ((y6 : Int) ≥ w (17 * a + 86) 8) from h17)
        refine e_Ok.ps1 (x := (1, 17 * a + 86)) (q := 41) 1 rfl ?_
        refine e_Ok.getr (z := 17 * a + 87) rfl (lA0 (a := a) rfl g_a) rfl rfl ((j8 (17 * a + 86) 0 (by first | exact no_c2_3 (by omega) | (unfold kPl; omega))).trans (Eq.trans (e_Has.eq hT (kA_0 (a := a) rfl g_a)) (by omega))) (by omega) ?_
        refine e_Ok.ps1 (x := (0, y6)) (q := 46) 1 rfl ?_
        refine e_Ok.aald (z := 17 * a + y6 + 97) rfl (lA1 (a := a) rfl g_a) rfl (by omega) ((j8 (17 * a + 87) y6 (by unfold kPl; omega)).trans (Eq.trans (e_Has.eq hT (kA87 (a := a) rfl g_a (by omega))) (by omega))) (by omega) ?_
        have h28 := (e_Has.get hT (c := 17 * a + y6 + 97) (k := 3) (lo := (-2147483648)) (hi := 2147483647) (kJ_3 (a := a) (j := y6) (by omega) (by omega) (by omega)) (by decide))
        refine e_Ok.getf (z := w (17 * a + y6 + 97) 3) rfl (lJ (a := a) (j := y6) (by omega) (by omega) (by omega)) rfl rfl ((j8 (17 * a + y6 + 97) 3 (by unfold kPl; omega)).trans rfl) (e_bq h28 (by decide) (by decide)) ?_
        refine e_Ok.run (t' := (53, [(7, (0, w (17 * a + y6 + 97) 3)), (0, (1, 17 * a + 86)), (1, (4, y1)), (3, (4, y3)), (5, (0, y5)), (6, (0, y6))], [(1, 17 * a + 86)], v1)) 2 rfl ?_
        refine e_Ok.getr (z := 17 * a + 87) rfl (lA0 (a := a) rfl g_a) rfl rfl ((j8 (17 * a + 86) 0 (by first | exact no_c2_3 (by omega) | (unfold kPl; omega))).trans (Eq.trans (e_Has.eq hT (kA_0 (a := a) rfl g_a)) (by omega))) (by omega) ?_
        refine e_Ok.ps1 (x := (0, y6)) (q := 58) 1 rfl ?_
        refine e_Ok.aald (z := 17 * a + y6 + 97) rfl (lA1 (a := a) rfl g_a) rfl (by omega) ((j8 (17 * a + 87) y6 (by unfold kPl; omega)).trans (Eq.trans (e_Has.eq hT (kA87 (a := a) rfl g_a (by omega))) (by omega))) (by omega) ?_
        have h29 := (e_Has.get hT (c := 17 * a + y6 + 97) (k := 0) (lo := (-2147483648)) (hi := 2147483647) (kJ_0 (a := a) (j := y6) (by omega) (by omega) (by omega)) (by decide))
        refine e_Ok.getf (z := w (17 * a + y6 + 97) 0) rfl (lJ (a := a) (j := y6) (by omega) (by omega) (by omega)) rfl rfl ((j8 (17 * a + y6 + 97) 0 (by unfold kPl; omega)).trans rfl) (e_bq h29 (by decide) (by decide)) ?_
        refine e_Ok.if1 rfl (fun h30 => ?_) (fun h30 => ?_)
        · replace h30 : (w (17 * a + y6 + 97) 0 : Int) ≠ 0 := h30
          refine e_Ok.ps2 (x := (1, 17 * a + 86)) (y := (0, w (17 * a + y6 + 97) 3)) (q := 86) 2 rfl ?_
          refine e_Ok.getr (z := 17 * a + 87) rfl (lA0 (a := a) rfl g_a) rfl rfl ((j8 (17 * a + 86) 0 (by first | exact no_c2_3 (by omega) | (unfold kPl; omega))).trans (Eq.trans (e_Has.eq hT (kA_0 (a := a) rfl g_a)) (by omega))) (by omega) ?_
          refine e_Ok.ps1 (x := (0, y6)) (q := 91) 1 rfl ?_
          refine e_Ok.aald (z := 17 * a + y6 + 97) rfl (lA1 (a := a) rfl g_a) rfl (by omega) ((j8 (17 * a + 87) y6 (by unfold kPl; omega)).trans (Eq.trans (e_Has.eq hT (kA87 (a := a) rfl g_a (by omega))) (by omega))) (by omega) ?_
          have h31 := (e_Has.get hT (c := 17 * a + y6 + 97) (k := 7) (lo := (-2147483648)) (hi := 2147483647) (kJ_7 (a := a) (j := y6) (by omega) (by omega) (by omega)) (by decide))
          refine e_Ok.getf (z := w (17 * a + y6 + 97) 7) rfl (lJ (a := a) (j := y6) (by omega) (by omega) (by omega)) rfl rfl ((j8 (17 * a + y6 + 97) 7 (by unfold kPl; omega)).trans rfl) (e_bq h31 (by decide) (by decide)) ?_
          refine e_Ok.any rfl (eF_add_any _ _) (fun z32 z32a z32b => ?_)
          refine e_Ok.run (t' := (104, [(7, (0, z32)), (0, (1, 17 * a + 86)), (1, (4, y1)), (3, (4, y3)), (5, (0, y5)), (6, (0, y6))], [(0, y5), (4, z32), (4, y1)], v1)) 5 rfl ?_
          refine e_Ok.callS rfl (e_dq hd rfl) rfl rfl (c_250 (e_dq hd rfl) (by omega)) (fun r33 w34 h35 => ?_)
          obtain ⟨z37, rfl, rfl, q36r⟩ := h35
          refine e_Ok.nrm (q := 107) (st' := [(0, z37), (4, z32), (4, y1)]) rfl rfl ?_
          refine e_Ok.run (t' := (108, [(7, (0, z32)), (0, (1, 17 * a + 86)), (1, (4, y1)), (3, (4, y3)), (5, (0, y5)), (6, (0, y6))], [(4, z37), (4, z32), (4, y1)], v1)) 1 rfl ?_
          refine e_Ok.anyL rfl ⟨_, rfl⟩ (fun x38 => ?_)
          refine e_Ok.anyL rfl ⟨_, rfl⟩ (fun x40 => ?_)
          refine e_Ok.run (t' := (117, [(1, (4, x40)), (7, (0, z32)), (0, (1, 17 * a + 86)), (3, (4, y3)), (5, (0, y5)), (6, (0, y6))], [(0, y5), (4, z32), (4, y3)], v1)) 5 rfl ?_
          refine e_Ok.callS rfl (e_dq hd rfl) rfl rfl (c_249 (by omega)) (fun r41 w42 h43 => ?_)
          obtain ⟨z45, rfl, rfl, q44r⟩ := h43
          refine e_Ok.nrm (q := 120) (st' := [(0, z45), (4, z32), (4, y3)]) rfl rfl ?_
          refine e_Ok.run (t' := (121, [(1, (4, x40)), (7, (0, z32)), (0, (1, 17 * a + 86)), (3, (4, y3)), (5, (0, y5)), (6, (0, y6))], [(4, z45), (4, z32), (4, y3)], v1)) 1 rfl ?_
          refine e_Ok.anyL rfl ⟨_, rfl⟩ (fun x46 => ?_)
          refine e_Ok.anyL rfl ⟨_, rfl⟩ (fun x47 => ?_)
          refine e_Ok.run (t' := (125, [(3, (4, x47)), (1, (4, x40)), (7, (0, z32)), (0, (1, 17 * a + 86)), (5, (0, y5)), (6, (0, y6))], [(1, 17 * a + 86)], v1)) 2 rfl ?_
          refine e_Ok.getr (z := 17 * a + 88) rfl (lA0 (a := a) rfl g_a) rfl rfl ((j8 (17 * a + 86) 1 (by first | exact no_c2_1 (by omega) | (unfold kPl; omega))).trans (Eq.trans (e_Has.eq hT (kA_1 (a := a) rfl g_a)) (by omega))) (by omega) ?_
          refine e_Ok.ps2 (x := (0, 1)) (y := (0, y6)) (q := 131) 2 rfl ?_
          refine e_Ok.add (z := y6 + 1) rfl rfl (by omega) ?_
          refine e_Ok.ps2 (x := (4, 524288)) (y := (4, x40)) (q := 136) 2 rfl ?_
          refine e_Ok.anyL rfl ⟨_, rfl⟩ (fun x48 => ?_)
          refine e_Ok.ps1 (x := (0, 20)) (q := 139) 1 rfl ?_
          refine e_Ok.anyS rfl ⟨_, rfl⟩ (fun x49 => ?_)
          refine e_Ok.l2i rfl (fun z50 z50a z50b => ?_)
          refine e_Ok.ast rfl (lA2 (a := a) rfl g_a) rfl rfl (by omega) ?_
          generalize hw51 : e_up v1 (17 * a + 88) (y6 + 1) z50 = w51
          have f52 : e_fr (kPl a) w w51 := e_fr.up j8 hw51 (by first | exact ⟨Or.inl (by omega), (by omega)⟩ | (unfold kPl; omega))
          have l53 : w51 (17 * a + 86) 8 = w (17 * a + 86) 8 := f52 (17 * a + 86) 8 (by first | exact no_c2_0 (by omega) | (unfold kPl; omega))
          have hT54 : e_Has kTy w51 := e_Has.ups j9 hw51 (kA88 (a := a) _ rfl g_a)
          refine e_Ok.run (t' := (143, [(3, (4, x47)), (1, (4, x40)), (7, (0, z32)), (0, (1, 17 * a + 86)), (5, (0, y5)), (6, (0, y6))], [(1, 17 * a + 86)], w51)) 1 rfl ?_
          refine e_Ok.getr (z := 17 * a + 89) rfl (lA0 (a := a) rfl g_a) rfl rfl (e_uq hw51 (Or.inl (e_neo (by decide))) ((j8 (17 * a + 86) 2 (by first | exact no_c2_2 (by omega) | (unfold kPl; omega))).trans (Eq.trans (e_Has.eq hT (kA_2 (a := a) rfl g_a)) (by omega)))) (by omega) ?_
          refine e_Ok.ps2 (x := (0, 1)) (y := (0, y6)) (q := 149) 2 rfl ?_
          refine e_Ok.add (z := y6 + 1) rfl rfl (by omega) ?_
          refine e_Ok.ps2 (x := (4, 524288)) (y := (4, x47)) (q := 154) 2 rfl ?_
          refine e_Ok.anyL rfl ⟨_, rfl⟩ (fun x55 => ?_)
          refine e_Ok.ps1 (x := (0, 20)) (q := 157) 1 rfl ?_
          refine e_Ok.anyS rfl ⟨_, rfl⟩ (fun x56 => ?_)
          refine e_Ok.l2i rfl (fun z57 z57a z57b => ?_)
          refine e_Ok.ast rfl (lA3 (a := a) rfl g_a) rfl rfl (by omega) ?_
          generalize hw58 : e_up w51 (17 * a + 89) (y6 + 1) z57 = w58
          have f59 : e_fr (kPl a) w w58 := e_fr.up f52 hw58 (by first | exact ⟨Or.inr (by omega), (by omega)⟩ | (unfold kPl; omega))
          have l60 : w58 (17 * a + 86) 8 = w (17 * a + 86) 8 := f59 (17 * a + 86) 8 (by first | exact no_c2_0 (by omega) | (unfold kPl; omega))
          have hT61 : e_Has kTy w58 := e_Has.ups hT54 hw58 (kA89 (a := a) _ rfl g_a)
          refine e_Ok.inc (z := y6 + 1) rfl rfl (by first | with_reducible rfl | omega) (by omega) ?_
          show e_Ok 20 elay kcode eI (d + 1) 10 (163, [(6, (0, y6 + 1)), (3, (4, x47)), (1, (4, x40)), (7, (0, z32)), (0, (1, 17 * a + 86)), (5, (0, y5))], [], w58) _
          refine e_Ok.ps0 (q := 31) 1 rfl ?_
          refine e_Ok.sub kAlk (e_sub_of rfl ?_) (ih7 x40 x47 y5 (y6 + 1) w58 ⟨f59, hT61, (e_kn_sub (e_kn.oth (e_kn.ext j10 hw51 (by omega) (by omega)) hw58 (by omega)) (by omega) (by omega)), (e_kn_sub (e_kn.ext (e_kn.oth j11 hw51 (by omega)) hw58 (by omega) (by omega)) (by omega) (by omega)), by omega, by omega, by omega⟩ (by omega))
          exact ⟨rfl, rfl, rfl, rfl, rfl, trivial⟩
        · replace h30 : (w (17 * a + y6 + 97) 0 : Int) = 0 := Classical.not_not.mp (show ¬ ((w (17 * a + y6 + 97) 0 : Int) ≠ 0) from h30)
          refine e_Ok.ps2 (x := (1, 17 * a + 86)) (y := (0, y5)) (q := 68) 2 rfl ?_
          refine e_Ok.getr (z := 17 * a + 87) rfl (lA0 (a := a) rfl g_a) rfl rfl ((j8 (17 * a + 86) 0 (by first | exact no_c2_3 (by omega) | (unfold kPl; omega))).trans (Eq.trans (e_Has.eq hT (kA_0 (a := a) rfl g_a)) (by omega))) (by omega) ?_
          refine e_Ok.ps1 (x := (0, y6)) (q := 73) 1 rfl ?_
          refine e_Ok.aald (z := 17 * a + y6 + 97) rfl (lA1 (a := a) rfl g_a) rfl (by omega) ((j8 (17 * a + 87) y6 (by unfold kPl; omega)).trans (Eq.trans (e_Has.eq hT (kA87 (a := a) rfl g_a (by omega))) (by omega))) (by omega) ?_
          have h62 := (e_Has.get hT (c := 17 * a + y6 + 97) (k := 7) (lo := (-2147483648)) (hi := 2147483647) (kJ_7 (a := a) (j := y6) (by omega) (by omega) (by omega)) (by decide))
          refine e_Ok.getf (z := w (17 * a + y6 + 97) 7) rfl (lJ (a := a) (j := y6) (by omega) (by omega) (by omega)) rfl rfl ((j8 (17 * a + y6 + 97) 7 (by unfold kPl; omega)).trans rfl) (e_bq h62 (by decide) (by decide)) ?_
          refine e_Ok.any rfl (eF_add_any _ _) (fun z63 z63a z63b => ?_)
          refine e_Ok.run (t' := (104, [(5, (0, z63)), (7, (0, w (17 * a + y6 + 97) 3)), (0, (1, 17 * a + 86)), (1, (4, y1)), (3, (4, y3)), (6, (0, y6))], [(0, z63), (4, w (17 * a + y6 + 97) 3), (4, y1)], v1)) 6 rfl ?_
          refine e_Ok.callS rfl (e_dq hd rfl) rfl rfl (c_250 (e_dq hd rfl) (by omega)) (fun r64 w65 h66 => ?_)
          obtain ⟨z68, rfl, rfl, q67r⟩ := h66
          refine e_Ok.nrm (q := 107) (st' := [(0, z68), (4, w (17 * a + y6 + 97) 3), (4, y1)]) rfl rfl ?_
          refine e_Ok.run (t' := (108, [(5, (0, z63)), (7, (0, w (17 * a + y6 + 97) 3)), (0, (1, 17 * a + 86)), (1, (4, y1)), (3, (4, y3)), (6, (0, y6))], [(4, z68), (4, w (17 * a + y6 + 97) 3), (4, y1)], v1)) 1 rfl ?_
          refine e_Ok.anyL rfl ⟨_, rfl⟩ (fun x69 => ?_)
          refine e_Ok.anyL rfl ⟨_, rfl⟩ (fun x70 => ?_)
          refine e_Ok.run (t' := (117, [(1, (4, x70)), (5, (0, z63)), (7, (0, w (17 * a + y6 + 97) 3)), (0, (1, 17 * a + 86)), (3, (4, y3)), (6, (0, y6))], [(0, z63), (4, w (17 * a + y6 + 97) 3), (4, y3)], v1)) 5 rfl ?_
          refine e_Ok.callS rfl (e_dq hd rfl) rfl rfl (c_249 (by omega)) (fun r71 w72 h73 => ?_)
          obtain ⟨z75, rfl, rfl, q74r⟩ := h73
          refine e_Ok.nrm (q := 120) (st' := [(0, z75), (4, w (17 * a + y6 + 97) 3), (4, y3)]) rfl rfl ?_
          refine e_Ok.run (t' := (121, [(1, (4, x70)), (5, (0, z63)), (7, (0, w (17 * a + y6 + 97) 3)), (0, (1, 17 * a + 86)), (3, (4, y3)), (6, (0, y6))], [(4, z75), (4, w (17 * a + y6 + 97) 3), (4, y3)], v1)) 1 rfl ?_
          refine e_Ok.anyL rfl ⟨_, rfl⟩ (fun x76 => ?_)
          refine e_Ok.anyL rfl ⟨_, rfl⟩ (fun x77 => ?_)
          refine e_Ok.run (t' := (125, [(3, (4, x77)), (1, (4, x70)), (5, (0, z63)), (7, (0, w (17 * a + y6 + 97) 3)), (0, (1, 17 * a + 86)), (6, (0, y6))], [(1, 17 * a + 86)], v1)) 2 rfl ?_
          refine e_Ok.getr (z := 17 * a + 88) rfl (lA0 (a := a) rfl g_a) rfl rfl ((j8 (17 * a + 86) 1 (by first | exact no_c2_1 (by omega) | (unfold kPl; omega))).trans (Eq.trans (e_Has.eq hT (kA_1 (a := a) rfl g_a)) (by omega))) (by omega) ?_
          refine e_Ok.ps2 (x := (0, 1)) (y := (0, y6)) (q := 131) 2 rfl ?_
          refine e_Ok.add (z := y6 + 1) rfl rfl (by omega) ?_
          refine e_Ok.ps2 (x := (4, 524288)) (y := (4, x70)) (q := 136) 2 rfl ?_
          refine e_Ok.anyL rfl ⟨_, rfl⟩ (fun x78 => ?_)
          refine e_Ok.ps1 (x := (0, 20)) (q := 139) 1 rfl ?_
          refine e_Ok.anyS rfl ⟨_, rfl⟩ (fun x79 => ?_)
          refine e_Ok.l2i rfl (fun z80 z80a z80b => ?_)
          refine e_Ok.ast rfl (lA2 (a := a) rfl g_a) rfl rfl (by omega) ?_
          generalize hw81 : e_up v1 (17 * a + 88) (y6 + 1) z80 = w81
          have f82 : e_fr (kPl a) w w81 := e_fr.up j8 hw81 (by first | exact ⟨Or.inl (by omega), (by omega)⟩ | (unfold kPl; omega))
          have l83 : w81 (17 * a + 86) 8 = w (17 * a + 86) 8 := f82 (17 * a + 86) 8 (by first | exact no_c2_0 (by omega) | (unfold kPl; omega))
          have hT84 : e_Has kTy w81 := e_Has.ups j9 hw81 (kA88 (a := a) _ rfl g_a)
          refine e_Ok.run (t' := (143, [(3, (4, x77)), (1, (4, x70)), (5, (0, z63)), (7, (0, w (17 * a + y6 + 97) 3)), (0, (1, 17 * a + 86)), (6, (0, y6))], [(1, 17 * a + 86)], w81)) 1 rfl ?_
          refine e_Ok.getr (z := 17 * a + 89) rfl (lA0 (a := a) rfl g_a) rfl rfl (e_uq hw81 (Or.inl (e_neo (by decide))) ((j8 (17 * a + 86) 2 (by first | exact no_c2_2 (by omega) | (unfold kPl; omega))).trans (Eq.trans (e_Has.eq hT (kA_2 (a := a) rfl g_a)) (by omega)))) (by omega) ?_
          refine e_Ok.ps2 (x := (0, 1)) (y := (0, y6)) (q := 149) 2 rfl ?_
          refine e_Ok.add (z := y6 + 1) rfl rfl (by omega) ?_
          refine e_Ok.ps2 (x := (4, 524288)) (y := (4, x77)) (q := 154) 2 rfl ?_
          refine e_Ok.anyL rfl ⟨_, rfl⟩ (fun x85 => ?_)
          refine e_Ok.ps1 (x := (0, 20)) (q := 157) 1 rfl ?_
          refine e_Ok.anyS rfl ⟨_, rfl⟩ (fun x86 => ?_)
          refine e_Ok.l2i rfl (fun z87 z87a z87b => ?_)
          refine e_Ok.ast rfl (lA3 (a := a) rfl g_a) rfl rfl (by omega) ?_
          generalize hw88 : e_up w81 (17 * a + 89) (y6 + 1) z87 = w88
          have f89 : e_fr (kPl a) w w88 := e_fr.up f82 hw88 (by first | exact ⟨Or.inr (by omega), (by omega)⟩ | (unfold kPl; omega))
          have l90 : w88 (17 * a + 86) 8 = w (17 * a + 86) 8 := f89 (17 * a + 86) 8 (by first | exact no_c2_0 (by omega) | (unfold kPl; omega))
          have hT91 : e_Has kTy w88 := e_Has.ups hT84 hw88 (kA89 (a := a) _ rfl g_a)
          refine e_Ok.inc (z := y6 + 1) rfl rfl (by first | with_reducible rfl | omega) (by omega) ?_
          show e_Ok 20 elay kcode eI (d + 1) 10 (163, [(6, (0, y6 + 1)), (3, (4, x77)), (1, (4, x70)), (5, (0, z63)), (7, (0, w (17 * a + y6 + 97) 3)), (0, (1, 17 * a + 86))], [], w88) _
          refine e_Ok.ps0 (q := 31) 1 rfl ?_
          refine e_Ok.sub kAlk (e_sub_of rfl ?_) (ih7 x70 x77 z63 (y6 + 1) w88 ⟨f89, hT91, (e_kn_sub (e_kn.oth (e_kn.ext j10 hw81 (by omega) (by omega)) hw88 (by omega)) (by omega) (by omega)), (e_kn_sub (e_kn.ext (e_kn.oth j11 hw81 (by omega)) hw88 (by omega) (by omega)) (by omega) (by omega)), by omega, by omega, by omega⟩ (by omega))
          exact ⟨rfl, rfl, rfl, rfl, rfl, trivial⟩
  refine e_Ok.sub kAlk (e_sub_of rfl ?_) (hL6 (6 + 1 : Int).toNat x2 x4 (w (17 * a + 86) 9) 0 w ⟨(e_fr.refl w), hT, (fun i g1 g2 => by rw [show i = 0 by omega]; exact hx0), (fun i g1 g2 => by rw [show i = 0 by omega]; exact hy0), by omega, by omega, by omega⟩ (by omega))
  exact ⟨rfl, rfl, rfl, rfl, rfl, trivial⟩
theorem no_c2_4 {a : Int} (ha : 0 ≤ a ∧ a ≤ 3) : ¬ kSt a (17 * a + 86) 0 := by unfold kSt; omega
theorem c_17 {d : Nat} {w : eW} (hT : e_Has kTy w) {a : Int} (g_a : 0 ≤ a ∧ a ≤ 3) : e_Ok 20 elay kcode eI d 17 (0, [(0, (1, 17 * a + 86))], [], w) (fun r w' => r = [] ∧ e_fr (kSt a) w w' ∧ e_Has kTy w' ∧ w' (17 * a + 86) 11 = 0 ∧ ∀ i, 0 ≤ i → i < 6 → w' (17 * a + i + 97) 8 = 0) := by
  refine e_Ok.ps2 (x := (0, 0)) (y := (1, 17 * a + 86)) (q := 2) 2 rfl ?_
  refine e_Ok.putf rfl (lA0 (a := a) rfl g_a) rfl rfl ?_
  generalize hw1 : e_up w (17 * a + 86) 11 0 = w1
  have hT3 : e_Has kTy w1 := e_Has.upr hT hw1 (kA_11 (a := a) rfl g_a) (by omega)
  refine e_Ok.ps2 (x := (0, (-1))) (y := (1, 17 * a + 86)) (q := 7) 2 rfl ?_
  refine e_Ok.putf rfl (lA0 (a := a) rfl g_a) rfl rfl ?_
  generalize hw4 : e_up w1 (17 * a + 86) 13 (-1) = w4
  have hT6 : e_Has kTy w4 := e_Has.upr hT3 hw4 (kA_13 (a := a) rfl g_a) (by omega)
  refine e_Ok.ps2 (x := (0, (-1))) (y := (1, 17 * a + 86)) (q := 12) 2 rfl ?_
  refine e_Ok.putf rfl (lA0 (a := a) rfl g_a) rfl rfl ?_
  generalize hw7 : e_up w4 (17 * a + 86) 18 (-1) = w7
  have hT9 : e_Has kTy w7 := e_Has.upr hT6 hw7 (kA_18 (a := a) rfl g_a) (by omega)
  refine e_Ok.run (t' := (17, [(1, (0, 0)), (0, (1, 17 * a + 86))], [], w7)) 2 rfl ?_
  have hL10 : ∀ (nn : Nat) (y1 : Int) (v1 : eW), e_fr (kSt a) w v1 ∧ e_Has kTy v1 ∧ (∀ i, 0 ≤ i → i < y1 → v1 (17 * a + i + 97) 8 = 0) ∧ v1 (17 * a + 86) 11 = 0 ∧ (0 ≤ y1 ∧ y1 ≤ 6) → 6 - y1 < nn → e_Ok 20 elay kcode eI d 17 (17, [(0, (1, 17 * a + 86)), (1, (0, y1))], [], v1) (fun r w' => r = [] ∧ e_fr (kSt a) w w' ∧ e_Has kTy w' ∧ w' (17 * a + 86) 11 = 0 ∧ ∀ i, 0 ≤ i → i < 6 → w' (17 * a + i + 97) 8 = 0) := by
    intro nn
    induction nn with
    | zero => intro y1 v1 hj hm; obtain ⟨j12, j13, j14, j15, j16⟩ := hj; exfalso; omega
    | succ nn ih11 =>
      intro y1 v1 hj hm
      obtain ⟨j12, j13, j14, j15, j16⟩ := hj
      refine e_Ok.run (t' := (20, [(0, (1, 17 * a + 86)), (1, (0, y1))], [(0, 6), (0, y1)], v1)) 2 rfl ?_
      refine e_Ok.if2 rfl (fun h17 => ?_) (fun h17 => ?_)
      · replace h17 : (y1 : Int) ≥ 6 := h17
        refine e_Ok.rets rfl rfl ?_
        exact ⟨rfl, j12, j13, ⟨j15, fun i g1 g2 => j14 i g1 (by omega)⟩⟩
      · replace h17 : (y1 : Int) < 6 := Int.not_le.mp (show ¬ ((y1 : Int) ≥ 6) from h17)
        refine e_Ok.ps1 (x := (1, 17 * a + 86)) (q := 24) 1 rfl ?_
        refine e_Ok.getr (z := 17 * a + 87) rfl (lA0 (a := a) rfl g_a) rfl rfl ((j12 (17 * a + 86) 0 (by first | exact no_c2_4 (by omega) | (unfold kSt; omega))).trans (Eq.trans (e_Has.eq hT (kA_0 (a := a) rfl g_a)) (by omega))) (by omega) ?_
        refine e_Ok.ps1 (x := (0, y1)) (q := 28) 1 rfl ?_
        refine e_Ok.aald (z := 17 * a + y1 + 97) rfl (lA1 (a := a) rfl g_a) rfl (by omega) ((j12 (17 * a + 87) y1 (by unfold kSt; omega)).trans (Eq.trans (e_Has.eq hT (kA87 (a := a) rfl g_a (by omega))) (by omega))) (by omega) ?_
        refine e_Ok.ps1 (x := (0, 0)) (q := 30) 1 rfl ?_
        refine e_Ok.putf rfl (lJ (a := a) (j := y1) (by omega) (by omega) (by omega)) rfl rfl ?_
        generalize hw18 : e_up v1 (17 * a + y1 + 97) 8 0 = w18
        have hT20 : e_Has kTy w18 := e_Has.upr j13 hw18 (kJ_8 (a := a) (j := y1) (by omega) (by omega) (by omega)) (by omega)
        refine e_Ok.inc (z := y1 + 1) rfl rfl (by first | with_reducible rfl | omega) (by omega) ?_
        show e_Ok 20 elay kcode eI d 17 (36, [(1, (0, y1 + 1)), (0, (1, 17 * a + 86))], [], w18) _
        refine e_Ok.ps0 (q := 17) 1 rfl ?_
        refine e_Ok.sub kAlk (e_sub_of rfl ?_) (ih11 (y1 + 1) w18 ⟨(show e_fr (kSt a) w w18 from e_fr.up j12 hw18 (by unfold kSt; omega)), hT20, (fun i g1 g2 => by rw [← hw18]; by_cases e : i = y1; (rw [e]; exact e_up_eq _ _ _ _); (rw [e_up_ne _ _ (Or.inl (by omega))]; exact j14 i g1 (by omega))), (e_uq hw18 (Or.inl (by omega)) j15), by omega⟩ (by omega))
        exact ⟨rfl, rfl, trivial⟩
  refine e_Ok.sub kAlk (e_sub_of rfl ?_) (hL10 (6 + 1 : Int).toNat 0 w7 ⟨(show e_fr (kSt a) w w7 from e_fr.up (show e_fr (kSt a) w w4 from e_fr.up (show e_fr (kSt a) w w1 from e_fr.up (e_fr.refl w) hw1 (by first | exact Or.inl ⟨(by omega), Or.inl rfl⟩ | (unfold kSt; omega))) hw4 (by first | exact Or.inl ⟨(by omega), Or.inr (Or.inl rfl)⟩ | (unfold kSt; omega))) hw7 (by first | exact Or.inl ⟨(by omega), Or.inr (Or.inr rfl)⟩ | (unfold kSt; omega))), hT9, (fun i g1 g2 => by omega), (show w7 (17 * a + 86) 11 = 0 from (e_uq hw7 (Or.inr (by omega)) (e_uq hw4 (Or.inr (by omega)) (e_ue hw1)))), by omega⟩ (by omega))
  exact ⟨rfl, rfl, trivial⟩
theorem no_c2_5 {a : Int} (ha : 0 ≤ a ∧ a ≤ 3) : ¬ kOl a (17 * a + 86) 8 := by unfold kOl; omega
theorem no_c2_6 {a : Int} (ha : 0 ≤ a ∧ a ≤ 3) : ¬ kOl a (17 * a + 86) 3 := by unfold kOl; omega
theorem no_c2_7 {a : Int} (ha : 0 ≤ a ∧ a ≤ 3) : ¬ kOl a (17 * a + 86) 1 := by unfold kOl; omega
theorem no_c2_8 {a : Int} (ha : 0 ≤ a ∧ a ≤ 3) : ¬ kOl a (17 * a + 86) 4 := by unfold kOl; omega
theorem no_c2_9 {a : Int} (ha : 0 ≤ a ∧ a ≤ 3) : ¬ kOl a (17 * a + 86) 2 := by unfold kOl; omega
theorem c_11 {d : Nat} {w : eW} (hT : e_Has kTy w) {a : Int} (g_a : 0 ≤ a ∧ a ≤ 3) (kx : aK w a) : e_Ok 20 elay kcode eI d 11 (0, [(0, (1, 17 * a + 86))], [], w) (fun r w' => r = [] ∧ e_fr (kOl a) w w' ∧ e_Has kTy w' ∧ oK w' a) := by
  have hjn := kn_joints hT (a := a) (by omega)
  refine e_Ok.run (t' := (2, [(1, (0, 0)), (0, (1, 17 * a + 86))], [], w)) 2 rfl ?_
  have hL1 : ∀ (nn : Nat) (y1 : Int) (v1 : eW), e_fr (kOl a) w v1 ∧ e_Has kTy v1 ∧ e_kn v1 (17 * a + 90) 0 (y1 - 1) ∧ e_kn v1 (17 * a + 91) 0 (y1 - 1) ∧ y1 ≤ w (17 * a + 86) 8 + 1 ∧ (0 ≤ y1 ∧ y1 ≤ 7) → 7 - y1 < nn → e_Ok 20 elay kcode eI d 11 (2, [(0, (1, 17 * a + 86)), (1, (0, y1))], [], v1) (fun r w' => r = [] ∧ e_fr (kOl a) w w' ∧ e_Has kTy w' ∧ oK w' a) := by
    intro nn
    induction nn with
    | zero => intro y1 v1 hj hm; obtain ⟨j3, j4, j5, j6, j7, j8⟩ := hj; exfalso; omega
    | succ nn ih2 =>
      intro y1 v1 hj hm
      obtain ⟨j3, j4, j5, j6, j7, j8⟩ := hj
      have l9 : v1 (17 * a + 86) 8 = w (17 * a + 86) 8 := j3 (17 * a + 86) 8 (by first | exact no_c2_5 (by omega) | (unfold kOl; omega))
      refine e_Ok.run (t' := (4, [(0, (1, 17 * a + 86)), (1, (0, y1))], [(1, 17 * a + 86), (0, y1)], v1)) 2 rfl ?_
      have h10 := (e_Has.get hT (c := 17 * a + 86) (k := 8) (lo := 0) (hi := 6) (kA_8 (a := a) rfl g_a) (by decide))
      refine e_Ok.getf (z := w (17 * a + 86) 8) rfl (lA0 (a := a) rfl g_a) rfl rfl ((j3 (17 * a + 86) 8 (by first | exact no_c2_5 (by omega) | (unfold kOl; omega))).trans rfl) (e_bq h10 (by decide) (by decide)) ?_
      refine e_Ok.if2 rfl (fun h11 => ?_) (fun h11 => ?_)
      · replace h11 : (y1 : Int) > w (17 * a + 86) 8 := h11
        refine e_Ok.rets rfl rfl ?_
        exact ⟨rfl, j3, j4, (by unfold oK; rw [(show v1 (17 * a + 86) 8 = w (17 * a + 86) 8 from j3 _ _ (by unfold kOl; omega))]; exact ⟨e_kn_sub j5 (by omega) (by omega), e_kn_sub j6 (by omega) (by omega)⟩)⟩
      · replace h11 : (y1 : Int) ≤ w (17 * a + 86) 8 := Int.not_lt.mp (show ¬ ((y1 : Int) > w (17 * a + 86) 8) from h11)
        refine e_Ok.ps1 (x := (1, 17 * a + 86)) (q := 11) 1 rfl ?_
        refine e_Ok.getr (z := 17 * a + 90) rfl (lA0 (a := a) rfl g_a) rfl rfl ((j3 (17 * a + 86) 3 (by first | exact no_c2_6 (by omega) | (unfold kOl; omega))).trans (Eq.trans (e_Has.eq hT (kA_3 (a := a) rfl g_a)) (by omega))) (by omega) ?_
        refine e_Ok.ps2 (x := (1, 17 * a + 86)) (y := (0, y1)) (q := 16) 2 rfl ?_
        refine e_Ok.getr (z := 17 * a + 88) rfl (lA0 (a := a) rfl g_a) rfl rfl ((j3 (17 * a + 86) 1 (by first | exact no_c2_7 (by omega) | (unfold kOl; omega))).trans (Eq.trans (e_Has.eq hT (kA_1 (a := a) rfl g_a)) (by omega))) (by omega) ?_
        refine e_Ok.ps1 (x := (0, y1)) (q := 20) 1 rfl ?_
        have h12 := (kx.1 y1 (by omega) (by omega))
        refine e_Ok.ald (z := w (17 * a + 88) y1) rfl (lA2 (a := a) rfl g_a) rfl (by omega) ((j3 (17 * a + 88) y1 (by unfold kOl; omega)).trans rfl) (by omega) ?_
        refine e_Ok.ast rfl (lA4 (a := a) rfl g_a) rfl rfl (by omega) ?_
        generalize hw13 : e_up v1 (17 * a + 90) y1 (w (17 * a + 88) y1) = w13
        have f14 : e_fr (kOl a) w w13 := e_fr.up j3 hw13 (by first | exact Or.inl (by omega) | (unfold kOl; omega))
        have l15 : w13 (17 * a + 86) 8 = w (17 * a + 86) 8 := f14 (17 * a + 86) 8 (by first | exact no_c2_5 (by omega) | (unfold kOl; omega))
        have hT16 : e_Has kTy w13 := e_Has.ups j4 hw13 (kA90 (a := a) _ rfl g_a)
        refine e_Ok.ps1 (x := (1, 17 * a + 86)) (q := 23) 1 rfl ?_
        refine e_Ok.getr (z := 17 * a + 91) rfl (lA0 (a := a) rfl g_a) rfl rfl (e_uq hw13 (Or.inl (e_neo (by decide))) ((j3 (17 * a + 86) 4 (by first | exact no_c2_8 (by omega) | (unfold kOl; omega))).trans (Eq.trans (e_Has.eq hT (kA_4 (a := a) rfl g_a)) (by omega)))) (by omega) ?_
        refine e_Ok.ps2 (x := (1, 17 * a + 86)) (y := (0, y1)) (q := 28) 2 rfl ?_
        refine e_Ok.getr (z := 17 * a + 89) rfl (lA0 (a := a) rfl g_a) rfl rfl (e_uq hw13 (Or.inl (e_neo (by decide))) ((j3 (17 * a + 86) 2 (by first | exact no_c2_9 (by omega) | (unfold kOl; omega))).trans (Eq.trans (e_Has.eq hT (kA_2 (a := a) rfl g_a)) (by omega)))) (by omega) ?_
        refine e_Ok.ps1 (x := (0, y1)) (q := 32) 1 rfl ?_
        have h17 := (kx.2 y1 (by omega) (by omega))
        refine e_Ok.ald (z := w (17 * a + 89) y1) rfl (lA3 (a := a) rfl g_a) rfl (by omega) (e_uq hw13 (Or.inl (e_neo (by decide))) ((j3 (17 * a + 89) y1 (by unfold kOl; omega)).trans rfl)) (by omega) ?_
        refine e_Ok.ast rfl (lA5 (a := a) rfl g_a) rfl rfl (by omega) ?_
        generalize hw18 : e_up w13 (17 * a + 91) y1 (w (17 * a + 89) y1) = w18
        have f19 : e_fr (kOl a) w w18 := e_fr.up f14 hw18 (by first | exact Or.inr (by omega) | (unfold kOl; omega))
        have l20 : w18 (17 * a + 86) 8 = w (17 * a + 86) 8 := f19 (17 * a + 86) 8 (by first | exact no_c2_5 (by omega) | (unfold kOl; omega))
        have hT21 : e_Has kTy w18 := e_Has.ups hT16 hw18 (kA91 (a := a) _ rfl g_a)
        refine e_Ok.inc (z := y1 + 1) rfl rfl (by first | with_reducible rfl | omega) (by omega) ?_
        show e_Ok 20 elay kcode eI d 11 (37, [(1, (0, y1 + 1)), (0, (1, 17 * a + 86))], [], w18) _
        refine e_Ok.ps0 (q := 2) 1 rfl ?_
        refine e_Ok.sub kAlk (e_sub_of rfl ?_) (ih2 (y1 + 1) w18 ⟨f19, hT21, (e_kn_sub (e_kn.oth (e_kn.ext j5 hw13 (by omega) (by omega)) hw18 (by omega)) (by omega) (by omega)), (e_kn_sub (e_kn.ext (e_kn.oth j6 hw13 (by omega)) hw18 (by omega) (by omega)) (by omega) (by omega)), by omega, by omega⟩ (by omega))
        exact ⟨rfl, rfl, trivial⟩
  refine e_Ok.sub kAlk (e_sub_of rfl ?_) (hL1 (7 + 1 : Int).toNat 0 w ⟨(e_fr.refl w), hT, (fun i g1 g2 => by omega), (fun i g1 g2 => by omega), by omega, by omega⟩ (by omega))
  exact ⟨rfl, rfl, trivial⟩
theorem no_c2_10 {a : Int} (ha : 0 ≤ a ∧ a ≤ 3) : ¬ kSp a (17 * a + 86) 8 := by unfold kSp; omega
theorem no_c2_11 {a : Int} (ha : 0 ≤ a ∧ a ≤ 3) : ¬ kSp a (17 * a + 86) 0 := by unfold kSp; omega
theorem c_12 {d : Nat} {w : eW} (hT : e_Has kTy w) {a : Int} (g_a : 0 ≤ a ∧ a ≤ 3) : e_Ok 20 elay kcode eI d 12 (0, [(0, (1, 17 * a + 86))], [], w) (fun r w' => r = [] ∧ e_fr (kSp a) w w' ∧ e_Has kTy w' ∧ ∀ i, 0 ≤ i → i < w (17 * a + 86) 8 → kn1 (w' (17 * a + i + 97) 11)) := by
  have hjn := kn_joints hT (a := a) (by omega)
  refine e_Ok.run (t' := (2, [(1, (0, 0)), (0, (1, 17 * a + 86))], [], w)) 2 rfl ?_
  have hL1 : ∀ (nn : Nat) (y1 : Int) (v1 : eW), e_fr (kSp a) w v1 ∧ e_Has kTy v1 ∧ (∀ i, 0 ≤ i → i < y1 → kn1 (v1 (17 * a + i + 97) 11)) ∧ y1 ≤ w (17 * a + 86) 8 ∧ (0 ≤ y1 ∧ y1 ≤ 6) → 6 - y1 < nn → e_Ok 20 elay kcode eI d 12 (2, [(0, (1, 17 * a + 86)), (1, (0, y1))], [], v1) (fun r w' => r = [] ∧ e_fr (kSp a) w w' ∧ e_Has kTy w' ∧ ∀ i, 0 ≤ i → i < w (17 * a + 86) 8 → kn1 (w' (17 * a + i + 97) 11)) := by
    intro nn
    induction nn with
    | zero => intro y1 v1 hj hm; obtain ⟨j3, j4, j5, j6, j7⟩ := hj; exfalso; omega
    | succ nn ih2 =>
      intro y1 v1 hj hm
      obtain ⟨j3, j4, j5, j6, j7⟩ := hj
      have l8 : v1 (17 * a + 86) 8 = w (17 * a + 86) 8 := j3 (17 * a + 86) 8 (by first | exact no_c2_10 (by omega) | (unfold kSp; omega))
      refine e_Ok.run (t' := (4, [(0, (1, 17 * a + 86)), (1, (0, y1))], [(1, 17 * a + 86), (0, y1)], v1)) 2 rfl ?_
      have h9 := (e_Has.get hT (c := 17 * a + 86) (k := 8) (lo := 0) (hi := 6) (kA_8 (a := a) rfl g_a) (by decide))
      refine e_Ok.getf (z := w (17 * a + 86) 8) rfl (lA0 (a := a) rfl g_a) rfl rfl ((j3 (17 * a + 86) 8 (by first | exact no_c2_10 (by omega) | (unfold kSp; omega))).trans rfl) (e_bq h9 (by decide) (by decide)) ?_
      refine e_Ok.if2 rfl (fun h10 => ?_) (fun h10 => ?_)
      · replace h10 : (y1 : Int) ≥ w (17 * a + 86) 8 := h10
        refine e_Ok.rets rfl rfl ?_
        exact ⟨rfl, j3, j4, fun i g1 g2 => j5 i g1 (by omega)⟩
      · replace h10 : (y1 : Int) < w (17 * a + 86) 8 := Int.not_le.mp (show ¬ ((y1 : Int) ≥ w (17 * a + 86) 8) from h10)
        refine e_Ok.ps1 (x := (1, 17 * a + 86)) (q := 11) 1 rfl ?_
        refine e_Ok.getr (z := 17 * a + 87) rfl (lA0 (a := a) rfl g_a) rfl rfl ((j3 (17 * a + 86) 0 (by first | exact no_c2_11 (by omega) | (unfold kSp; omega))).trans (Eq.trans (e_Has.eq hT (kA_0 (a := a) rfl g_a)) (by omega))) (by omega) ?_
        refine e_Ok.ps1 (x := (0, y1)) (q := 15) 1 rfl ?_
        refine e_Ok.aald (z := 17 * a + y1 + 97) rfl (lA1 (a := a) rfl g_a) rfl (by omega) ((j3 (17 * a + 87) y1 (by unfold kSp; omega)).trans (Eq.trans (e_Has.eq hT (kA87 (a := a) rfl g_a (by omega))) (by omega))) (by omega) ?_
        refine e_Ok.ps1 (x := (1, 17 * a + 86)) (q := 17) 1 rfl ?_
        refine e_Ok.getr (z := 17 * a + 87) rfl (lA0 (a := a) rfl g_a) rfl rfl ((j3 (17 * a + 86) 0 (by first | exact no_c2_11 (by omega) | (unfold kSp; omega))).trans (Eq.trans (e_Has.eq hT (kA_0 (a := a) rfl g_a)) (by omega))) (by omega) ?_
        refine e_Ok.ps1 (x := (0, y1)) (q := 21) 1 rfl ?_
        refine e_Ok.aald (z := 17 * a + y1 + 97) rfl (lA1 (a := a) rfl g_a) rfl (by omega) ((j3 (17 * a + 87) y1 (by unfold kSp; omega)).trans (Eq.trans (e_Has.eq hT (kA87 (a := a) rfl g_a (by omega))) (by omega))) (by omega) ?_
        have h11 := (e_Has.get hT (c := 17 * a + y1 + 97) (k := 8) (lo := (-2000)) (hi := 2000) (kJ_8 (a := a) (j := y1) (by omega) (by omega) (by omega)) (by decide))
        refine e_Ok.getf (z := w (17 * a + y1 + 97) 8) rfl (lJ (a := a) (j := y1) (by omega) (by omega) (by omega)) rfl rfl ((j3 (17 * a + y1 + 97) 8 (by unfold kSp; omega)).trans rfl) (e_bq h11 (by decide) (by decide)) ?_
        refine e_Ok.putf rfl (lJ (a := a) (j := y1) (by omega) (by omega) (by omega)) rfl rfl ?_
        generalize hw12 : e_up v1 (17 * a + y1 + 97) 11 (w (17 * a + y1 + 97) 8) = w12
        have f13 : e_fr (kSp a) w w12 := e_fr.up j3 hw12 (by unfold kSp; omega)
        have l14 : w12 (17 * a + 86) 8 = w (17 * a + 86) 8 := f13 (17 * a + 86) 8 (by first | exact no_c2_10 (by omega) | (unfold kSp; omega))
        have hT15 : e_Has kTy w12 := e_Has.ups j4 hw12 (kJ_11 (a := a) (j := y1) (by omega) (by omega) (by omega))
        refine e_Ok.inc (z := y1 + 1) rfl rfl (by first | with_reducible rfl | omega) (by omega) ?_
        show e_Ok 20 elay kcode eI d 12 (31, [(1, (0, y1 + 1)), (0, (1, 17 * a + 86))], [], w12) _
        refine e_Ok.ps0 (q := 2) 1 rfl ?_
        refine e_Ok.sub kAlk (e_sub_of rfl ?_) (ih2 (y1 + 1) w12 ⟨f13, hT15, (fun i g1 g2 => by rw [← hw12]; by_cases e : i = y1; (rw [e, e_up_eq]; unfold kn1; omega); (rw [e_up_ne _ _ (Or.inl (by omega))]; exact j5 i g1 (by omega))), by omega, by omega⟩ (by omega))
        exact ⟨rfl, rfl, trivial⟩
  refine e_Ok.sub kAlk (e_sub_of rfl ?_) (hL1 (6 + 1 : Int).toNat 0 w ⟨(e_fr.refl w), hT, (fun i g1 g2 => by omega), by omega, by omega⟩ (by omega))
  exact ⟨rfl, rfl, trivial⟩
theorem no_c2_12 {a : Int} (ha : 0 ≤ a ∧ a ≤ 3) : ¬ kBm a (17 * a + 86) 8 := by unfold kBm; omega
theorem no_c2_13 {a : Int} (ha : 0 ≤ a ∧ a ≤ 3) : ¬ kBm a (17 * a + 86) 0 := by unfold kBm; omega
theorem c_13 {d : Nat} {w : eW} (hT : e_Has kTy w) {a o : Int} (g_a : 0 ≤ a ∧ a ≤ 3) (g_o : (-1) ≤ o ∧ o ≤ 15) : e_Ok 20 elay kcode eI d 13 (0, [(0, (1, 17 * a + 86)), (1, (0, o))], [], w) (fun r w' => r = [] ∧ e_fr (kBm a) w w' ∧ e_Has kTy w' ∧ (w' (17 * a + 86) 11 = 1 ∧ w' (17 * a + 86) 12 = 0 ∧ w' (17 * a + 86) 13 = o) ∧ ∀ i, 0 ≤ i → i < w (17 * a + 86) 8 → kn1 (w' (17 * a + i + 97) 10)) := by
  have hjn := kn_joints hT (a := a) (by omega)
  refine e_Ok.ps2 (x := (0, 1)) (y := (1, 17 * a + 86)) (q := 2) 2 rfl ?_
  refine e_Ok.putf rfl (lA0 (a := a) rfl g_a) rfl rfl ?_
  generalize hw1 : e_up w (17 * a + 86) 11 1 = w1
  have f2 : e_fr (kBm a) w w1 := e_fr.up (e_fr.refl w) hw1 (by first | exact Or.inl ⟨(by omega), ⟨(by decide), (by decide)⟩⟩ | (unfold kBm; omega))
  have l3 : w1 (17 * a + 86) 8 = w (17 * a + 86) 8 := f2 (17 * a + 86) 8 (by first | exact no_c2_12 (by omega) | (unfold kBm; omega))
  have hT4 : e_Has kTy w1 := e_Has.upr hT hw1 (kA_11 (a := a) rfl g_a) (by omega)
  refine e_Ok.ps2 (x := (0, 0)) (y := (1, 17 * a + 86)) (q := 7) 2 rfl ?_
  refine e_Ok.putf rfl (lA0 (a := a) rfl g_a) rfl rfl ?_
  generalize hw5 : e_up w1 (17 * a + 86) 12 0 = w5
  have f6 : e_fr (kBm a) w w5 := e_fr.up f2 hw5 (by first | exact Or.inl ⟨(by omega), ⟨(by decide), (by decide)⟩⟩ | (unfold kBm; omega))
  have l7 : w5 (17 * a + 86) 8 = w (17 * a + 86) 8 := f6 (17 * a + 86) 8 (by first | exact no_c2_12 (by omega) | (unfold kBm; omega))
  have hT8 : e_Has kTy w5 := e_Has.ups hT4 hw5 (kA_12 (a := a) rfl g_a)
  refine e_Ok.ps2 (x := (0, o)) (y := (1, 17 * a + 86)) (q := 12) 2 rfl ?_
  refine e_Ok.putf rfl (lA0 (a := a) rfl g_a) rfl rfl ?_
  generalize hw9 : e_up w5 (17 * a + 86) 13 o = w9
  have f10 : e_fr (kBm a) w w9 := e_fr.up f6 hw9 (by first | exact Or.inl ⟨(by omega), ⟨(by decide), (by decide)⟩⟩ | (unfold kBm; omega))
  have l11 : w9 (17 * a + 86) 8 = w (17 * a + 86) 8 := f10 (17 * a + 86) 8 (by first | exact no_c2_12 (by omega) | (unfold kBm; omega))
  have hT12 : e_Has kTy w9 := e_Has.upr hT8 hw9 (kA_13 (a := a) rfl g_a) (by omega)
  refine e_Ok.run (t' := (17, [(2, (0, 0)), (0, (1, 17 * a + 86)), (1, (0, o))], [], w9)) 2 rfl ?_
  have hL13 : ∀ (nn : Nat) (y2 : Int) (v1 : eW), e_fr (kBm a) w v1 ∧ e_Has kTy v1 ∧ (∀ i, 0 ≤ i → i < y2 → kn1 (v1 (17 * a + i + 97) 10)) ∧ v1 (17 * a + 86) 11 = 1 ∧ v1 (17 * a + 86) 12 = 0 ∧ v1 (17 * a + 86) 13 = o ∧ y2 ≤ w (17 * a + 86) 8 ∧ (0 ≤ y2 ∧ y2 ≤ 6) → 6 - y2 < nn → e_Ok 20 elay kcode eI d 13 (17, [(0, (1, 17 * a + 86)), (2, (0, y2))], [], v1) (fun r w' => r = [] ∧ e_fr (kBm a) w w' ∧ e_Has kTy w' ∧ (w' (17 * a + 86) 11 = 1 ∧ w' (17 * a + 86) 12 = 0 ∧ w' (17 * a + 86) 13 = o) ∧ ∀ i, 0 ≤ i → i < w (17 * a + 86) 8 → kn1 (w' (17 * a + i + 97) 10)) := by
    intro nn
    induction nn with
    | zero => intro y2 v1 hj hm; obtain ⟨j15, j16, j17, j18, j19, j20, j21, j22⟩ := hj; exfalso; omega
    | succ nn ih14 =>
      intro y2 v1 hj hm
      obtain ⟨j15, j16, j17, j18, j19, j20, j21, j22⟩ := hj
      have l23 : v1 (17 * a + 86) 8 = w (17 * a + 86) 8 := j15 (17 * a + 86) 8 (by first | exact no_c2_12 (by omega) | (unfold kBm; omega))
      refine e_Ok.run (t' := (19, [(0, (1, 17 * a + 86)), (2, (0, y2))], [(1, 17 * a + 86), (0, y2)], v1)) 2 rfl ?_
      have h24 := (e_Has.get hT (c := 17 * a + 86) (k := 8) (lo := 0) (hi := 6) (kA_8 (a := a) rfl g_a) (by decide))
      refine e_Ok.getf (z := w (17 * a + 86) 8) rfl (lA0 (a := a) rfl g_a) rfl rfl ((j15 (17 * a + 86) 8 (by first | exact no_c2_12 (by omega) | (unfold kBm; omega))).trans rfl) (e_bq h24 (by decide) (by decide)) ?_
      refine e_Ok.if2 rfl (fun h25 => ?_) (fun h25 => ?_)
      · replace h25 : (y2 : Int) ≥ w (17 * a + 86) 8 := h25
        refine e_Ok.rets rfl rfl ?_
        exact ⟨rfl, j15, j16, ⟨⟨j18, j19, j20⟩, fun i g1 g2 => j17 i g1 (by omega)⟩⟩
      · replace h25 : (y2 : Int) < w (17 * a + 86) 8 := Int.not_le.mp (show ¬ ((y2 : Int) ≥ w (17 * a + 86) 8) from h25)
        refine e_Ok.ps1 (x := (1, 17 * a + 86)) (q := 26) 1 rfl ?_
        refine e_Ok.getr (z := 17 * a + 87) rfl (lA0 (a := a) rfl g_a) rfl rfl ((j15 (17 * a + 86) 0 (by first | exact no_c2_13 (by omega) | (unfold kBm; omega))).trans (Eq.trans (e_Has.eq hT (kA_0 (a := a) rfl g_a)) (by omega))) (by omega) ?_
        refine e_Ok.ps1 (x := (0, y2)) (q := 30) 1 rfl ?_
        refine e_Ok.aald (z := 17 * a + y2 + 97) rfl (lA1 (a := a) rfl g_a) rfl (by omega) ((j15 (17 * a + 87) y2 (by unfold kBm; omega)).trans (Eq.trans (e_Has.eq hT (kA87 (a := a) rfl g_a (by omega))) (by omega))) (by omega) ?_
        refine e_Ok.ps1 (x := (1, 17 * a + 86)) (q := 32) 1 rfl ?_
        refine e_Ok.getr (z := 17 * a + 87) rfl (lA0 (a := a) rfl g_a) rfl rfl ((j15 (17 * a + 86) 0 (by first | exact no_c2_13 (by omega) | (unfold kBm; omega))).trans (Eq.trans (e_Has.eq hT (kA_0 (a := a) rfl g_a)) (by omega))) (by omega) ?_
        refine e_Ok.ps1 (x := (0, y2)) (q := 36) 1 rfl ?_
        refine e_Ok.aald (z := 17 * a + y2 + 97) rfl (lA1 (a := a) rfl g_a) rfl (by omega) ((j15 (17 * a + 87) y2 (by unfold kBm; omega)).trans (Eq.trans (e_Has.eq hT (kA87 (a := a) rfl g_a (by omega))) (by omega))) (by omega) ?_
        have h26 := (e_Has.get hT (c := 17 * a + y2 + 97) (k := 7) (lo := (-2147483648)) (hi := 2147483647) (kJ_7 (a := a) (j := y2) (by omega) (by omega) (by omega)) (by decide))
        refine e_Ok.getf (z := w (17 * a + y2 + 97) 7) rfl (lJ (a := a) (j := y2) (by omega) (by omega) (by omega)) rfl rfl ((j15 (17 * a + y2 + 97) 7 (by unfold kBm; omega)).trans rfl) (e_bq h26 (by decide) (by decide)) ?_
        refine e_Ok.putf rfl (lJ (a := a) (j := y2) (by omega) (by omega) (by omega)) rfl rfl ?_
        generalize hw27 : e_up v1 (17 * a + y2 + 97) 10 (w (17 * a + y2 + 97) 7) = w27
        have f28 : e_fr (kBm a) w w27 := e_fr.up j15 hw27 (by unfold kBm; omega)
        have l29 : w27 (17 * a + 86) 8 = w (17 * a + 86) 8 := f28 (17 * a + 86) 8 (by first | exact no_c2_12 (by omega) | (unfold kBm; omega))
        have hT30 : e_Has kTy w27 := e_Has.ups j16 hw27 (kJ_10 (a := a) (j := y2) (by omega) (by omega) (by omega))
        refine e_Ok.inc (z := y2 + 1) rfl rfl (by first | with_reducible rfl | omega) (by omega) ?_
        show e_Ok 20 elay kcode eI d 13 (46, [(2, (0, y2 + 1)), (0, (1, 17 * a + 86))], [], w27) _
        refine e_Ok.ps0 (q := 17) 1 rfl ?_
        refine e_Ok.sub kAlk (e_sub_of rfl ?_) (ih14 (y2 + 1) w27 ⟨f28, hT30, (fun i g1 g2 => by rw [← hw27]; by_cases e : i = y2; (rw [e, e_up_eq]; unfold kn1; omega); (rw [e_up_ne _ _ (Or.inl (by omega))]; exact j17 i g1 (by omega))), (e_uq hw27 (Or.inl (by omega)) j18), (e_uq hw27 (Or.inl (by omega)) j19), (e_uq hw27 (Or.inl (by omega)) j20), by omega, by omega⟩ (by omega))
        exact ⟨rfl, rfl, trivial⟩
  refine e_Ok.sub kAlk (e_sub_of rfl ?_) (hL13 (6 + 1 : Int).toNat 0 w9 ⟨f10, hT12, (fun i g1 g2 => by omega), (show w9 (17 * a + 86) 11 = 1 from (e_uq hw9 (Or.inr (by omega)) (e_uq hw5 (Or.inr (by omega)) (e_ue hw1)))), (show w9 (17 * a + 86) 12 = 0 from (e_uq hw9 (Or.inr (by omega)) (e_ue hw5))), (show w9 (17 * a + 86) 13 = o from (e_ue hw9)), by omega, by omega⟩ (by omega))
  exact ⟨rfl, rfl, trivial⟩
theorem c_15 {d : Nat} {w : eW} (hT : e_Has kTy w) {a : Int} (g_a : 0 ≤ a ∧ a ≤ 3) : e_Ok 20 elay kcode eI d 15 (0, [(0, (1, 17 * a + 86))], [], w) (fun r w' => ∃ z : Int, r = [(0, z)] ∧ w = w' ∧ (0 ≤ z ∧ z ≤ 1) ∧ (z = 1 → ∀ i, 0 ≤ i → i < w (17 * a + 86) 8 → w (17 * a + i + 97) 8 = 0)) := by
  have hjn := kn_joints hT (a := a) (by omega)
  refine e_Ok.run (t' := (2, [(1, (0, 0)), (0, (1, 17 * a + 86))], [], w)) 2 rfl ?_
  have hL1 : ∀ (nn : Nat) (y1 : Int), (∀ i, 0 ≤ i → i < y1 → w (17 * a + i + 97) 8 = 0) ∧ (0 ≤ y1 ∧ y1 ≤ 6) ∧ y1 ≤ w (17 * a + 86) 8 → 6 - y1 < nn → e_Ok 20 elay kcode eI d 15 (2, [(0, (1, 17 * a + 86)), (1, (0, y1))], [], w) (fun r w' => ∃ z : Int, r = [(0, z)] ∧ w = w' ∧ (0 ≤ z ∧ z ≤ 1) ∧ (z = 1 → ∀ i, 0 ≤ i → i < w (17 * a + 86) 8 → w (17 * a + i + 97) 8 = 0)) := by
    intro nn
    induction nn with
    | zero => intro y1 hj hm; obtain ⟨j3, j4, j5⟩ := hj; exfalso; omega
    | succ nn ih2 =>
      intro y1 hj hm
      obtain ⟨j3, j4, j5⟩ := hj
      refine e_Ok.run (t' := (4, [(0, (1, 17 * a + 86)), (1, (0, y1))], [(1, 17 * a + 86), (0, y1)], w)) 2 rfl ?_
      have h6 := (e_Has.get hT (c := 17 * a + 86) (k := 8) (lo := 0) (hi := 6) (kA_8 (a := a) rfl g_a) (by decide))
      refine e_Ok.getf (z := w (17 * a + 86) 8) rfl (lA0 (a := a) rfl g_a) rfl rfl rfl (e_bq h6 (by decide) (by decide)) ?_
      refine e_Ok.if2 rfl (fun h7 => ?_) (fun h7 => ?_)
      · replace h7 : (y1 : Int) ≥ w (17 * a + 86) 8 := h7
        refine e_Ok.ps1 (x := (0, 1)) (q := 31) 1 rfl ?_
        refine e_Ok.rets rfl rfl ?_
        exact ⟨_, rfl, rfl, ⟨by omega, by omega⟩, fun _ i g1 g2 => j3 i g1 (by omega)⟩
      · replace h7 : (y1 : Int) < w (17 * a + 86) 8 := Int.not_le.mp (show ¬ ((y1 : Int) ≥ w (17 * a + 86) 8) from h7)
        refine e_Ok.ps1 (x := (1, 17 * a + 86)) (q := 11) 1 rfl ?_
        refine e_Ok.getr (z := 17 * a + 87) rfl (lA0 (a := a) rfl g_a) rfl rfl (Eq.trans (e_Has.eq hT (kA_0 (a := a) rfl g_a)) (by omega)) (by omega) ?_
        refine e_Ok.ps1 (x := (0, y1)) (q := 15) 1 rfl ?_
        refine e_Ok.aald (z := 17 * a + y1 + 97) rfl (lA1 (a := a) rfl g_a) rfl (by omega) (Eq.trans (e_Has.eq hT (kA87 (a := a) rfl g_a (by omega))) (by omega)) (by omega) ?_
        have h8 := (e_Has.get hT (c := 17 * a + y1 + 97) (k := 8) (lo := (-2000)) (hi := 2000) (kJ_8 (a := a) (j := y1) (by omega) (by omega) (by omega)) (by decide))
        refine e_Ok.getf (z := w (17 * a + y1 + 97) 8) rfl (lJ (a := a) (j := y1) (by omega) (by omega) (by omega)) rfl rfl rfl (e_bq h8 (by decide) (by decide)) ?_
        refine e_Ok.if1 rfl (fun h9 => ?_) (fun h9 => ?_)
        · replace h9 : (w (17 * a + y1 + 97) 8 : Int) = 0 := h9
          refine e_Ok.inc (z := y1 + 1) rfl rfl (by first | with_reducible rfl | omega) (by omega) ?_
          show e_Ok 20 elay kcode eI d 15 (27, [(1, (0, y1 + 1)), (0, (1, 17 * a + 86))], [], w) _
          refine e_Ok.ps0 (q := 2) 1 rfl ?_
          refine e_Ok.sub kAlk (e_sub_of rfl ?_) (ih2 (y1 + 1) ⟨(fun i g1 g2 => if e : i = y1 then by rw [e]; omega else j3 i g1 (by omega)), by omega, by omega⟩ (by omega))
          exact ⟨rfl, rfl, trivial⟩
        · replace h9 : (w (17 * a + y1 + 97) 8 : Int) ≠ 0 := (show ¬ ((w (17 * a + y1 + 97) 8 : Int) = 0) from h9)
          refine e_Ok.ps1 (x := (0, 0)) (q := 23) 1 rfl ?_
          refine e_Ok.rets rfl rfl ?_
          exact ⟨_, rfl, rfl, ⟨by omega, by omega⟩, fun q => absurd q (by decide)⟩
  refine e_Ok.sub kAlk (e_sub_of rfl ?_) (hL1 (6 + 1 : Int).toNat 0 ⟨(fun i g1 g2 => by omega), by omega, by omega⟩ (by omega))
  exact ⟨rfl, rfl, trivial⟩
theorem c_16 {d : Nat} (hd : 21 ≤ d) {w : eW} (hT : e_Has kTy w) {a : Int} (g_a : 0 ≤ a ∧ a ≤ 3) : e_Ok 20 elay kcode eI d 16 (0, [(0, (1, 17 * a + 86))], [], w) (fun r w' => ∃ z : Int, r = [(0, z)] ∧ w = w' ∧ (0 ≤ z ∧ z ≤ 1) ∧ (z = 1 → ∀ i, 0 ≤ i → i < w (17 * a + 86) 8 → w (17 * a + i + 97) 7 = w (17 * a + i + 97) 9 ∧ w (17 * a + i + 97) 8 = 0)) := by
  obtain ⟨d, rfl⟩ : ∃ e, d = e + 1 := ⟨d - 1, by omega⟩
  have hjn := kn_joints hT (a := a) (by omega)
  refine e_Ok.run (t' := (2, [(1, (0, 0)), (0, (1, 17 * a + 86))], [], w)) 2 rfl ?_
  have hL1 : ∀ (nn : Nat) (y1 : Int), (∀ i, 0 ≤ i → i < y1 → w (17 * a + i + 97) 7 = w (17 * a + i + 97) 9) ∧ (0 ≤ y1 ∧ y1 ≤ 6) ∧ y1 ≤ w (17 * a + 86) 8 → 6 - y1 < nn → e_Ok 20 elay kcode eI (d + 1) 16 (2, [(0, (1, 17 * a + 86)), (1, (0, y1))], [], w) (fun r w' => ∃ z : Int, r = [(0, z)] ∧ w = w' ∧ (0 ≤ z ∧ z ≤ 1) ∧ (z = 1 → ∀ i, 0 ≤ i → i < w (17 * a + 86) 8 → w (17 * a + i + 97) 7 = w (17 * a + i + 97) 9 ∧ w (17 * a + i + 97) 8 = 0)) := by
    intro nn
    induction nn with
    | zero => intro y1 hj hm; obtain ⟨j3, j4, j5⟩ := hj; exfalso; omega
    | succ nn ih2 =>
      intro y1 hj hm
      obtain ⟨j3, j4, j5⟩ := hj
      refine e_Ok.run (t' := (4, [(0, (1, 17 * a + 86)), (1, (0, y1))], [(1, 17 * a + 86), (0, y1)], w)) 2 rfl ?_
      have h6 := (e_Has.get hT (c := 17 * a + 86) (k := 8) (lo := 0) (hi := 6) (kA_8 (a := a) rfl g_a) (by decide))
      refine e_Ok.getf (z := w (17 * a + 86) 8) rfl (lA0 (a := a) rfl g_a) rfl rfl rfl (e_bq h6 (by decide) (by decide)) ?_
      refine e_Ok.if2 rfl (fun h7 => ?_) (fun h7 => ?_)
      · replace h7 : (y1 : Int) ≥ w (17 * a + 86) 8 := h7
        refine e_Ok.ps1 (x := (1, 17 * a + 86)) (q := 40) 1 rfl ?_
        refine e_Ok.callV rfl (e_dq hd rfl) rfl (lA0 (a := a) rfl g_a) rfl rfl (c_15 (a := a) hT (by omega)) (fun r8 w9 h10 => ?_)
        obtain ⟨z12, rfl, rfl, q11r, q11x⟩ := h10
        refine e_Ok.nrm (q := 43) (st' := [(0, z12)]) rfl rfl ?_
        refine e_Ok.retb rfl (by omega) ?_
        exact ⟨_, rfl, rfl, ⟨by omega, by omega⟩, fun q i g1 g2 => ⟨j3 i g1 (by omega), q11x q i g1 g2⟩⟩
      · replace h7 : (y1 : Int) < w (17 * a + 86) 8 := Int.not_le.mp (show ¬ ((y1 : Int) ≥ w (17 * a + 86) 8) from h7)
        refine e_Ok.ps1 (x := (1, 17 * a + 86)) (q := 11) 1 rfl ?_
        refine e_Ok.getr (z := 17 * a + 87) rfl (lA0 (a := a) rfl g_a) rfl rfl (Eq.trans (e_Has.eq hT (kA_0 (a := a) rfl g_a)) (by omega)) (by omega) ?_
        refine e_Ok.ps1 (x := (0, y1)) (q := 15) 1 rfl ?_
        refine e_Ok.aald (z := 17 * a + y1 + 97) rfl (lA1 (a := a) rfl g_a) rfl (by omega) (Eq.trans (e_Has.eq hT (kA87 (a := a) rfl g_a (by omega))) (by omega)) (by omega) ?_
        have h13 := (e_Has.get hT (c := 17 * a + y1 + 97) (k := 7) (lo := (-2147483648)) (hi := 2147483647) (kJ_7 (a := a) (j := y1) (by omega) (by omega) (by omega)) (by decide))
        refine e_Ok.getf (z := w (17 * a + y1 + 97) 7) rfl (lJ (a := a) (j := y1) (by omega) (by omega) (by omega)) rfl rfl rfl (e_bq h13 (by decide) (by decide)) ?_
        refine e_Ok.ps1 (x := (1, 17 * a + 86)) (q := 20) 1 rfl ?_
        refine e_Ok.getr (z := 17 * a + 87) rfl (lA0 (a := a) rfl g_a) rfl rfl (Eq.trans (e_Has.eq hT (kA_0 (a := a) rfl g_a)) (by omega)) (by omega) ?_
        refine e_Ok.ps1 (x := (0, y1)) (q := 24) 1 rfl ?_
        refine e_Ok.aald (z := 17 * a + y1 + 97) rfl (lA1 (a := a) rfl g_a) rfl (by omega) (Eq.trans (e_Has.eq hT (kA87 (a := a) rfl g_a (by omega))) (by omega)) (by omega) ?_
        have h14 := (e_Has.get hT (c := 17 * a + y1 + 97) (k := 9) (lo := (-2147483648)) (hi := 2147483647) (kJ_9 (a := a) (j := y1) (by omega) (by omega) (by omega)) (by decide))
        refine e_Ok.getf (z := w (17 * a + y1 + 97) 9) rfl (lJ (a := a) (j := y1) (by omega) (by omega) (by omega)) rfl rfl rfl (e_bq h14 (by decide) (by decide)) ?_
        refine e_Ok.if2 rfl (fun h15 => ?_) (fun h15 => ?_)
        · replace h15 : (w (17 * a + y1 + 97) 7 : Int) = w (17 * a + y1 + 97) 9 := h15
          refine e_Ok.inc (z := y1 + 1) rfl rfl (by first | with_reducible rfl | omega) (by omega) ?_
          show e_Ok 20 elay kcode eI (d + 1) 16 (36, [(1, (0, y1 + 1)), (0, (1, 17 * a + 86))], [], w) _
          refine e_Ok.ps0 (q := 2) 1 rfl ?_
          refine e_Ok.sub kAlk (e_sub_of rfl ?_) (ih2 (y1 + 1) ⟨(fun i g1 g2 => if e : i = y1 then by rw [e]; omega else j3 i g1 (by omega)), by omega, by omega⟩ (by omega))
          exact ⟨rfl, rfl, trivial⟩
        · replace h15 : (w (17 * a + y1 + 97) 7 : Int) ≠ w (17 * a + y1 + 97) 9 := (show ¬ ((w (17 * a + y1 + 97) 7 : Int) = w (17 * a + y1 + 97) 9) from h15)
          refine e_Ok.ps1 (x := (0, 0)) (q := 32) 1 rfl ?_
          refine e_Ok.rets rfl rfl ?_
          exact ⟨_, rfl, rfl, ⟨by omega, by omega⟩, fun q => absurd q (by decide)⟩
  refine e_Ok.sub kAlk (e_sub_of rfl ?_) (hL1 (6 + 1 : Int).toNat 0 ⟨(fun i g1 g2 => by omega), by omega, by omega⟩ (by omega))
  exact ⟨rfl, rfl, trivial⟩
theorem c_5 {d : Nat} {w : eW} (hT : e_Has kTy w) {a : Int} (g_a : 0 ≤ a ∧ a ≤ 3) : e_Ok 20 elay kcode eI d 5 (0, [(0, (1, 17 * a + 86))], [], w) (fun r w' => ∃ z : Int, r = [(0, z)] ∧ w = w' ∧ ((-2147483648) ≤ z ∧ z ≤ 2147483647)) := by
  refine e_Ok.run (t' := (4, [(2, (0, 0)), (1, (0, 0)), (0, (1, 17 * a + 86))], [], w)) 4 rfl ?_
  have hL1 : ∀ (nn : Nat) (y1 : Int) (y2 : Int), (-2147483648 ≤ y1 ∧ y1 ≤ 2147483647) ∧ (0 ≤ y2 ∧ y2 ≤ 6) → 6 - y2 < nn → e_Ok 20 elay kcode eI d 5 (4, [(0, (1, 17 * a + 86)), (1, (0, y1)), (2, (0, y2))], [], w) (fun r w' => ∃ z : Int, r = [(0, z)] ∧ w = w' ∧ ((-2147483648) ≤ z ∧ z ≤ 2147483647)) := by
    intro nn
    induction nn with
    | zero => intro y1 y2 hj hm; obtain ⟨j3, j4⟩ := hj; exfalso; omega
    | succ nn ih2 =>
      intro y1 y2 hj hm
      obtain ⟨j3, j4⟩ := hj
      refine e_Ok.run (t' := (6, [(0, (1, 17 * a + 86)), (1, (0, y1)), (2, (0, y2))], [(1, 17 * a + 86), (0, y2)], w)) 2 rfl ?_
      have h5 := (e_Has.get hT (c := 17 * a + 86) (k := 8) (lo := 0) (hi := 6) (kA_8 (a := a) rfl g_a) (by decide))
      refine e_Ok.getf (z := w (17 * a + 86) 8) rfl (lA0 (a := a) rfl g_a) rfl rfl rfl (e_bq h5 (by decide) (by decide)) ?_
      refine e_Ok.if2 rfl (fun h6 => ?_) (fun h6 => ?_)
      · replace h6 : (y2 : Int) ≥ w (17 * a + 86) 8 := h6
        refine e_Ok.ps1 (x := (0, y1)) (q := 58) 1 rfl ?_
        refine e_Ok.rets rfl rfl ?_
        exact ⟨_, rfl, rfl, ⟨by omega, by omega⟩⟩
      · replace h6 : (y2 : Int) < w (17 * a + 86) 8 := Int.not_le.mp (show ¬ ((y2 : Int) ≥ w (17 * a + 86) 8) from h6)
        refine e_Ok.ps2 (x := (1, 17 * a + 86)) (y := (0, y1)) (q := 14) 2 rfl ?_
        refine e_Ok.getr (z := 17 * a + 87) rfl (lA0 (a := a) rfl g_a) rfl rfl (Eq.trans (e_Has.eq hT (kA_0 (a := a) rfl g_a)) (by omega)) (by omega) ?_
        refine e_Ok.ps1 (x := (0, y2)) (q := 18) 1 rfl ?_
        refine e_Ok.aald (z := 17 * a + y2 + 97) rfl (lA1 (a := a) rfl g_a) rfl (by omega) (Eq.trans (e_Has.eq hT (kA87 (a := a) rfl g_a (by omega))) (by omega)) (by omega) ?_
        have h7 := (e_Has.get hT (c := 17 * a + y2 + 97) (k := 3) (lo := (-2147483648)) (hi := 2147483647) (kJ_3 (a := a) (j := y2) (by omega) (by omega) (by omega)) (by decide))
        refine e_Ok.getf (z := w (17 * a + y2 + 97) 3) rfl (lJ (a := a) (j := y2) (by omega) (by omega) (by omega)) rfl rfl rfl (e_bq h7 (by decide) (by decide)) ?_
        refine e_Ok.ps1 (x := (1, 17 * a + 86)) (q := 23) 1 rfl ?_
        refine e_Ok.getr (z := 17 * a + 87) rfl (lA0 (a := a) rfl g_a) rfl rfl (Eq.trans (e_Has.eq hT (kA_0 (a := a) rfl g_a)) (by omega)) (by omega) ?_
        refine e_Ok.ps1 (x := (0, y2)) (q := 27) 1 rfl ?_
        refine e_Ok.aald (z := 17 * a + y2 + 97) rfl (lA1 (a := a) rfl g_a) rfl (by omega) (Eq.trans (e_Has.eq hT (kA87 (a := a) rfl g_a (by omega))) (by omega)) (by omega) ?_
        have h8 := (e_Has.get hT (c := 17 * a + y2 + 97) (k := 0) (lo := (-2147483648)) (hi := 2147483647) (kJ_0 (a := a) (j := y2) (by omega) (by omega) (by omega)) (by decide))
        refine e_Ok.getf (z := w (17 * a + y2 + 97) 0) rfl (lJ (a := a) (j := y2) (by omega) (by omega) (by omega)) rfl rfl rfl (e_bq h8 (by decide) (by decide)) ?_
        refine e_Ok.ps1 (x := (0, 1)) (q := 32) 1 rfl ?_
        refine e_Ok.if2 rfl (fun h9 => ?_) (fun h9 => ?_)
        · replace h9 : (w (17 * a + y2 + 97) 0 : Int) ≠ 1 := h9
          refine e_Ok.ps1 (x := (0, 0)) (q := 48) 1 rfl ?_
          refine e_Ok.add (z := w (17 * a + y2 + 97) 3) rfl (by omega) (by omega) ?_
          refine e_Ok.any rfl (eF_add_any _ _) (fun z10 z10a z10b => ?_)
          refine e_Ok.run (t' := (51, [(1, (0, z10)), (0, (1, 17 * a + 86)), (2, (0, y2))], [], w)) 1 rfl ?_
          refine e_Ok.inc (z := y2 + 1) rfl rfl (by first | with_reducible rfl | omega) (by omega) ?_
          show e_Ok 20 elay kcode eI d 5 (54, [(2, (0, y2 + 1)), (1, (0, z10)), (0, (1, 17 * a + 86))], [], w) _
          refine e_Ok.ps0 (q := 4) 1 rfl ?_
          refine e_Ok.sub kAlk (e_sub_of rfl ?_) (ih2 z10 (y2 + 1) ⟨by omega, by omega⟩ (by omega))
          exact ⟨rfl, rfl, rfl, trivial⟩
        · replace h9 : (w (17 * a + y2 + 97) 0 : Int) = 1 := Classical.not_not.mp (show ¬ ((w (17 * a + y2 + 97) 0 : Int) ≠ 1) from h9)
          refine e_Ok.ps1 (x := (1, 17 * a + 86)) (q := 36) 1 rfl ?_
          refine e_Ok.getr (z := 17 * a + 87) rfl (lA0 (a := a) rfl g_a) rfl rfl (Eq.trans (e_Has.eq hT (kA_0 (a := a) rfl g_a)) (by omega)) (by omega) ?_
          refine e_Ok.ps1 (x := (0, y2)) (q := 40) 1 rfl ?_
          refine e_Ok.aald (z := 17 * a + y2 + 97) rfl (lA1 (a := a) rfl g_a) rfl (by omega) (Eq.trans (e_Has.eq hT (kA87 (a := a) rfl g_a (by omega))) (by omega)) (by omega) ?_
          have h11 := (e_Has.get hT (c := 17 * a + y2 + 97) (k := 2) (lo := (-2147483648)) (hi := 2147483647) (kJ_2 (a := a) (j := y2) (by omega) (by omega) (by omega)) (by decide))
          refine e_Ok.getf (z := w (17 * a + y2 + 97) 2) rfl (lJ (a := a) (j := y2) (by omega) (by omega) (by omega)) rfl rfl rfl (e_bq h11 (by decide) (by decide)) ?_
          refine e_Ok.ps0 (q := 48) 1 rfl ?_
          refine e_Ok.any rfl (eF_add_any _ _) (fun z12 z12a z12b => ?_)
          refine e_Ok.any rfl (eF_add_any _ _) (fun z13 z13a z13b => ?_)
          refine e_Ok.run (t' := (51, [(1, (0, z13)), (0, (1, 17 * a + 86)), (2, (0, y2))], [], w)) 1 rfl ?_
          refine e_Ok.inc (z := y2 + 1) rfl rfl (by first | with_reducible rfl | omega) (by omega) ?_
          show e_Ok 20 elay kcode eI d 5 (54, [(2, (0, y2 + 1)), (1, (0, z13)), (0, (1, 17 * a + 86))], [], w) _
          refine e_Ok.ps0 (q := 4) 1 rfl ?_
          refine e_Ok.sub kAlk (e_sub_of rfl ?_) (ih2 z13 (y2 + 1) ⟨by omega, by omega⟩ (by omega))
          exact ⟨rfl, rfl, rfl, trivial⟩
  refine e_Ok.sub kAlk (e_sub_of rfl ?_) (hL1 (6 + 1 : Int).toNat 0 0 ⟨by omega, by omega⟩ (by omega))
  exact ⟨rfl, rfl, rfl, trivial⟩
theorem no_c2_14 {a : Int} (ha : 0 ≤ a ∧ a ≤ 3) : ¬ kGo a (17 * a + 86) 8 := by unfold kGo; omega
theorem no_c2_15 {a : Int} (ha : 0 ≤ a ∧ a ≤ 3) : ¬ kGo a (17 * a + 86) 11 := by unfold kGo; omega
theorem no_c2_16 {a : Int} (ha : 0 ≤ a ∧ a ≤ 3) : ¬ kGo a (17 * a + 86) 0 := by unfold kGo; omega
theorem su_c2_17 {a : Int} {c k : Int} (q : kPl a c k) : kGo a c k := by
  unfold kPl at q
  rcases q with ⟨(q | q), q⟩
  · exact Or.inr (Or.inr ⟨Or.inl (by omega), (by omega)⟩)
  · exact Or.inr (Or.inr ⟨Or.inr (by omega), (by omega)⟩)
theorem c_14 {d : Nat} (hd : 23 ≤ d) {w : eW} (hT : e_Has kTy w) {a : Int} (g_a : 0 ≤ a ∧ a ≤ 3) (kx : aK w a) (ht : kn1 (w (17 * a + 86) 12)) (hst : w (17 * a + 86) 11 = 1 ∨ w (17 * a + 86) 11 = 2) (hm : aMs w a (w (17 * a + 86) 8) (w (17 * a + 86) 11)) : e_Ok 20 elay kcode eI d 14 (0, [(0, (1, 17 * a + 86))], [], w) (fun r w' => ∃ z : Int, r = [(0, z)] ∧ e_fr (kGo a) w w' ∧ e_Has kTy w' ∧ (0 ≤ z ∧ z ≤ 1) ∧ (aMs w' a (w (17 * a + 86) 8) (w (17 * a + 86) 11) ∧ aK w' a)) := by
  obtain ⟨d, rfl⟩ : ∃ e, d = e + 1 := ⟨d - 1, by omega⟩
  have hjn := kn_joints hT (a := a) (by omega)
  have ht0 := ht
  unfold kn1 at ht
  refine e_Ok.run (t' := (4, [(1, (0, 0)), (0, (1, 17 * a + 86))], [(1, 17 * a + 86), (1, 17 * a + 86)], w)) 4 rfl ?_
  refine e_Ok.getf (z := w (17 * a + 86) 12) rfl (lA0 (a := a) rfl g_a) rfl rfl rfl (by omega) ?_
  refine e_Ok.ps1 (x := (0, 1)) (q := 8) 1 rfl ?_
  refine e_Ok.any rfl (eF_add_any _ _) (fun z1 z1a z1b => ?_)
  refine e_Ok.putf rfl (lA0 (a := a) rfl g_a) rfl rfl ?_
  generalize hw2 : e_up w (17 * a + 86) 12 z1 = w2
  have f3 : e_fr (kGo a) w w2 := e_fr.up (e_fr.refl w) hw2 (by first | exact Or.inl ⟨(by omega), rfl⟩ | (unfold kGo; omega))
  have l4 : w2 (17 * a + 86) 8 = w (17 * a + 86) 8 := f3 (17 * a + 86) 8 (by first | exact no_c2_14 (by omega) | (unfold kGo; omega))
  have l5 : w2 (17 * a + 86) 11 = w (17 * a + 86) 11 := f3 (17 * a + 86) 11 (by first | exact no_c2_15 (by omega) | (unfold kGo; omega))
  have hT6 : e_Has kTy w2 := e_Has.ups hT hw2 (kA_12 (a := a) rfl g_a)
  refine e_Ok.run (t' := (14, [(2, (0, 0)), (1, (0, 0)), (0, (1, 17 * a + 86))], [], w2)) 2 rfl ?_
  have hL7 : ∀ (nn : Nat) (y1 : Int) (y2 : Int) (v1 : eW), e_fr (kGo a) w v1 ∧ e_Has kTy v1 ∧ aMs v1 a (w (17 * a + 86) 8) (w (17 * a + 86) 11) ∧ aK v1 a ∧ (0 ≤ y1 ∧ y1 ≤ 1) ∧ (0 ≤ y2 ∧ y2 ≤ 6) → 6 - y2 < nn → e_Ok 20 elay kcode eI (d + 1) 14 (14, [(0, (1, 17 * a + 86)), (1, (0, y1)), (2, (0, y2))], [], v1) (fun r w' => ∃ z : Int, r = [(0, z)] ∧ e_fr (kGo a) w w' ∧ e_Has kTy w' ∧ (0 ≤ z ∧ z ≤ 1) ∧ (aMs w' a (w (17 * a + 86) 8) (w (17 * a + 86) 11) ∧ aK w' a)) := by
    intro nn
    induction nn with
    | zero => intro y1 y2 v1 hj hm; obtain ⟨j9, j10, j11, j12, j13, j14⟩ := hj; exfalso; omega
    | succ nn ih8 =>
      intro y1 y2 v1 hj hm
      obtain ⟨j9, j10, j11, j12, j13, j14⟩ := hj
      have l15 : v1 (17 * a + 86) 8 = w (17 * a + 86) 8 := j9 (17 * a + 86) 8 (by first | exact no_c2_14 (by omega) | (unfold kGo; omega))
      have l16 : v1 (17 * a + 86) 11 = w (17 * a + 86) 11 := j9 (17 * a + 86) 11 (by first | exact no_c2_15 (by omega) | (unfold kGo; omega))
      refine e_Ok.run (t' := (16, [(0, (1, 17 * a + 86)), (1, (0, y1)), (2, (0, y2))], [(1, 17 * a + 86), (0, y2)], v1)) 2 rfl ?_
      have h17 := (e_Has.get hT (c := 17 * a + 86) (k := 8) (lo := 0) (hi := 6) (kA_8 (a := a) rfl g_a) (by decide))
      refine e_Ok.getf (z := w (17 * a + 86) 8) rfl (lA0 (a := a) rfl g_a) rfl rfl ((j9 (17 * a + 86) 8 (by first | exact no_c2_14 (by omega) | (unfold kGo; omega))).trans rfl) (e_bq h17 (by decide) (by decide)) ?_
      refine e_Ok.if2 rfl (fun h18 => ?_) (fun h18 => ?_)
      · replace h18 : (y2 : Int) ≥ w (17 * a + 86) 8 := h18
        refine e_Ok.ps1 (x := (0, y1)) (q := 89) 1 rfl ?_
        refine e_Ok.if1 rfl (fun h19 => ?_) (fun h19 => ?_)
        · replace h19 : (y1 : Int) = 0 := h19
          refine e_Ok.ps1 (x := (0, y1)) (q := 97) 1 rfl ?_
          refine e_Ok.retb rfl (by omega) ?_
          exact ⟨_, rfl, j9, j10, ⟨by omega, by omega⟩, ⟨j11, j12⟩⟩
        · replace h19 : (y1 : Int) ≠ 0 := (show ¬ ((y1 : Int) = 0) from h19)
          refine e_Ok.ps1 (x := (1, 17 * a + 86)) (q := 93) 1 rfl ?_
          refine e_Ok.callV rfl (e_dq hd rfl) rfl (lA0 (a := a) rfl g_a) rfl rfl (c_10 (e_dq hd rfl) (a := a) j10 (by omega) (j12.1 0 (by omega) (by omega)) (j12.2 0 (by omega) (by omega))) (fun r20 w21 h22 => ?_)
          obtain ⟨rfl, q23f, q23T, q23x⟩ := h22
          have f24 : e_fr (kGo a) w w21 := e_fr.trans j9 (e_fr.mono q23f (fun c k q => by first | exact su_c2_17 q | (unfold kPl at q; unfold kGo; omega)))
          have l25 : w21 (17 * a + 86) 8 = w (17 * a + 86) 8 := f24 (17 * a + 86) 8 (by first | exact no_c2_14 (by omega) | (unfold kGo; omega))
          have l26 : w21 (17 * a + 86) 11 = w (17 * a + 86) 11 := f24 (17 * a + 86) 11 (by first | exact no_c2_15 (by omega) | (unfold kGo; omega))
          refine e_Ok.nrm (q := 96) (st' := []) rfl rfl ?_
          refine e_Ok.ps1 (x := (0, y1)) (q := 97) 1 rfl ?_
          refine e_Ok.retb rfl (by omega) ?_
          exact ⟨_, rfl, f24, q23T, ⟨by omega, by omega⟩, ⟨fun i g1 g2 => by have e : ∀ k, w21 (17 * a + i + 97) k = v1 (17 * a + i + 97) k := fun k => q23f _ _ (by unfold kPl; omega); have q := j11 i g1 g2; unfold jC jM at q ⊢; simp only [e]; exact q, q23x⟩⟩
      · replace h18 : (y2 : Int) < w (17 * a + 86) 8 := Int.not_le.mp (show ¬ ((y2 : Int) ≥ w (17 * a + 86) 8) from h18)
        refine e_Ok.ps1 (x := (1, 17 * a + 86)) (q := 23) 1 rfl ?_
        refine e_Ok.getr (z := 17 * a + 87) rfl (lA0 (a := a) rfl g_a) rfl rfl ((j9 (17 * a + 86) 0 (by first | exact no_c2_16 (by omega) | (unfold kGo; omega))).trans (Eq.trans (e_Has.eq hT (kA_0 (a := a) rfl g_a)) (by omega))) (by omega) ?_
        refine e_Ok.ps1 (x := (0, y2)) (q := 27) 1 rfl ?_
        refine e_Ok.aald (z := 17 * a + y2 + 97) rfl (lA1 (a := a) rfl g_a) rfl (by omega) ((j9 (17 * a + 87) y2 (by unfold kGo; omega)).trans (Eq.trans (e_Has.eq hT (kA87 (a := a) rfl g_a (by omega))) (by omega))) (by omega) ?_
        refine e_Ok.run (t' := (29, [(3, (1, 17 * a + y2 + 97)), (0, (1, 17 * a + 86)), (1, (0, y1)), (2, (0, y2))], [], v1)) 1 rfl ?_
        have hq := j11 y2 (by omega) (by omega)
        have hqc := hq.1; have hqm := hq.2; unfold jC at hqc; unfold jM joOk at hqm
        have hqt := e_Has.get j10 (c := 17 * a + y2 + 97) (k := 8) (lo := -2000) (hi := 2000) (kJ_8 (a := a) (j := y2) (by omega) (by omega) (by omega)) (by decide)
        have hqv := hqm.1; have hqg := hqm.2.2.1; clear hqm
        refine e_Ok.ps2 (x := (1, 17 * a + 86)) (y := (1, 17 * a + y2 + 97)) (q := 31) 2 rfl ?_
        have h27 := (e_Has.get hT (c := 17 * a + 86) (k := 11) (lo := 0) (hi := 2) (kA_11 (a := a) rfl g_a) (by decide))
        refine e_Ok.getf (z := w (17 * a + 86) 11) rfl (lA0 (a := a) rfl g_a) rfl rfl ((j9 (17 * a + 86) 11 (by first | exact no_c2_15 (by omega) | (unfold kGo; omega))).trans rfl) (e_bq h27 (by decide) (by decide)) ?_
        refine e_Ok.ps1 (x := (0, 2)) (q := 35) 1 rfl ?_
        refine e_Ok.if2 rfl (fun h28 => ?_) (fun h28 => ?_)
        · replace h28 : (w (17 * a + 86) 11 : Int) ≠ 2 := h28
          refine e_Ok.ps1 (x := (1, 17 * a + y2 + 97)) (q := 46) 1 rfl ?_
          refine e_Ok.callV rfl (e_dq hd rfl) rfl (lJ (a := a) (j := y2) (by omega) (by omega) (by omega)) rfl rfl (c_90 (e_dq hd rfl) (a := a) (j := y2) j10 (by omega) (by omega) (g := v1 (17 * a + y2 + 97) 6) (by omega) rfl (v := v1 (17 * a + y2 + 97) 7) (s := v1 (17 * a + y2 + 97) 8) (go := v1 (17 * a + y2 + 97) 9) (sp := v1 (17 * a + y2 + 97) 5) (by omega) (by have := hqg (by omega); omega) (by omega) (by omega) rfl rfl rfl rfl) (fun r29 w30 h31 => ?_)
          obtain ⟨z32, rfl, rfl, q33r, q33d⟩ := h31
          clear hqg
          refine e_Ok.nrm (q := 49) (st' := [(0, z32), (1, 17 * a + y2 + 97)]) rfl rfl ?_
          refine e_Ok.putf rfl (lJ (a := a) (j := y2) (by omega) (by omega) (by omega)) rfl rfl ?_
          generalize hw34 : e_up v1 (17 * a + y2 + 97) 8 z32 = w34
          have f35 : e_fr (kGo a) w w34 := e_fr.up j9 hw34 (by unfold kGo; omega)
          have l36 : w34 (17 * a + 86) 8 = w (17 * a + 86) 8 := f35 (17 * a + 86) 8 (by first | exact no_c2_14 (by omega) | (unfold kGo; omega))
          have l37 : w34 (17 * a + 86) 11 = w (17 * a + 86) 11 := f35 (17 * a + 86) 11 (by first | exact no_c2_15 (by omega) | (unfold kGo; omega))
          have hT38 : e_Has kTy w34 := e_Has.upr j10 hw34 (kJ_8 (a := a) (j := y2) (by omega) (by omega) (by omega)) (by omega)
          refine e_Ok.ps2 (x := (1, 17 * a + y2 + 97)) (y := (1, 17 * a + y2 + 97)) (q := 54) 2 rfl ?_
          refine e_Ok.getf (z := v1 (17 * a + y2 + 97) 7) rfl (lJ (a := a) (j := y2) (by omega) (by omega) (by omega)) rfl rfl (e_uq hw34 (Or.inr (by decide)) rfl) (by omega) ?_
          refine e_Ok.ps1 (x := (1, 17 * a + y2 + 97)) (q := 58) 1 rfl ?_
          refine e_Ok.getf (z := z32) rfl (lJ (a := a) (j := y2) (by omega) (by omega) (by omega)) rfl rfl (e_ue hw34) (by omega) ?_
          refine e_Ok.add (z := v1 (17 * a + y2 + 97) 7 + z32) rfl rfl (by omega) ?_
          refine e_Ok.putf rfl (lJ (a := a) (j := y2) (by omega) (by omega) (by omega)) rfl rfl ?_
          generalize hw40 : e_up w34 (17 * a + y2 + 97) 7 (v1 (17 * a + y2 + 97) 7 + z32) = w40
          have f41 : e_fr (kGo a) w w40 := e_fr.up f35 hw40 (by unfold kGo; omega)
          have l42 : w40 (17 * a + 86) 8 = w (17 * a + 86) 8 := f41 (17 * a + 86) 8 (by first | exact no_c2_14 (by omega) | (unfold kGo; omega))
          have l43 : w40 (17 * a + 86) 11 = w (17 * a + 86) 11 := f41 (17 * a + 86) 11 (by first | exact no_c2_15 (by omega) | (unfold kGo; omega))
          have hT44 : e_Has kTy w40 := e_Has.upr hT38 hw40 (kJ_7 (a := a) (j := y2) (by omega) (by omega) (by omega)) (by omega)
          refine e_Ok.ps1 (x := (0, y1)) (q := 66) 1 rfl ?_
          refine e_Ok.if1 rfl (fun h45 => ?_) (fun h45 => ?_)
          · replace h45 : (y1 : Int) ≠ 0 := h45
            refine e_Ok.run (t' := (82, [(1, (0, 1)), (3, (1, 17 * a + y2 + 97)), (0, (1, 17 * a + 86)), (2, (0, y2))], [], w40)) 3 rfl ?_
            refine e_Ok.inc (z := y2 + 1) rfl rfl (by first | with_reducible rfl | omega) (by omega) ?_
            show e_Ok 20 elay kcode eI (d + 1) 14 (85, [(2, (0, y2 + 1)), (1, (0, 1)), (3, (1, 17 * a + y2 + 97)), (0, (1, 17 * a + 86))], [], w40) _
            refine e_Ok.ps0 (q := 14) 1 rfl ?_
            refine e_Ok.sub kAlk (e_sub_of rfl ?_) (ih8 1 (y2 + 1) w40 ⟨f41, hT44, (fun i g1 g2 => if e : i = y2 then by rw [e]; exact jq.step hq hw34 hw40 (by omega) (Or.inl ⟨by omega, q33d⟩) else jq.oth (jq.oth (j11 i g1 g2) hw34 (by omega)) hw40 (by omega)), (aK.up (aK.up j12 hw34 (by omega) (by omega) (by omega)) hw40 (by omega) (by omega) (by omega)), by omega, by omega⟩ (by omega))
            exact ⟨rfl, rfl, rfl, trivial⟩
          · replace h45 : (y1 : Int) = 0 := Classical.not_not.mp (show ¬ ((y1 : Int) ≠ 0) from h45)
            refine e_Ok.ps1 (x := (1, 17 * a + y2 + 97)) (q := 70) 1 rfl ?_
            refine e_Ok.getf (z := z32) rfl (lJ (a := a) (j := y2) (by omega) (by omega) (by omega)) rfl rfl (e_uq hw40 (Or.inr (by decide)) (e_ue hw34)) (by omega) ?_
            have hJ48 : ∀ m47 : Int, 0 ≤ m47 ∧ m47 ≤ 1 → e_Ok 20 elay kcode eI (d + 1) 14 (81, [(3, (1, 17 * a + y2 + 97)), (0, (1, 17 * a + 86)), (1, (0, y1)), (2, (0, y2))], [(0, m47)], w40) (fun r w' => ∃ z : Int, r = [(0, z)] ∧ e_fr (kGo a) w w' ∧ e_Has kTy w' ∧ (0 ≤ z ∧ z ≤ 1) ∧ (aMs w' a (w (17 * a + 86) 8) (w (17 * a + 86) 11) ∧ aK w' a)) := by
              intro m47 m47r
              refine e_Ok.run (t' := (82, [(1, (0, m47)), (3, (1, 17 * a + y2 + 97)), (0, (1, 17 * a + 86)), (2, (0, y2))], [], w40)) 1 rfl ?_
              refine e_Ok.inc (z := y2 + 1) rfl rfl (by first | with_reducible rfl | omega) (by omega) ?_
              show e_Ok 20 elay kcode eI (d + 1) 14 (85, [(2, (0, y2 + 1)), (1, (0, m47)), (3, (1, 17 * a + y2 + 97)), (0, (1, 17 * a + 86))], [], w40) _
              refine e_Ok.ps0 (q := 14) 1 rfl ?_
              refine e_Ok.sub kAlk (e_sub_of rfl ?_) (ih8 m47 (y2 + 1) w40 ⟨f41, hT44, (fun i g1 g2 => if e : i = y2 then by rw [e]; exact jq.step hq hw34 hw40 (by omega) (Or.inl ⟨by omega, q33d⟩) else jq.oth (jq.oth (j11 i g1 g2) hw34 (by omega)) hw40 (by omega)), (aK.up (aK.up j12 hw34 (by omega) (by omega) (by omega)) hw40 (by omega) (by omega) (by omega)), by omega, by omega⟩ (by omega))
              exact ⟨rfl, rfl, rfl, trivial⟩
            refine e_Ok.if1 rfl (fun h46 => ?_) (fun h46 => ?_)
            · exact e_Ok.run 1 rfl (hJ48 0 (by omega))
            · exact e_Ok.run 2 rfl (hJ48 1 (by omega))
        · replace h28 : (w (17 * a + 86) 11 : Int) = 2 := Classical.not_not.mp (show ¬ ((w (17 * a + 86) 11 : Int) ≠ 2) from h28)
          refine e_Ok.ps1 (x := (1, 17 * a + y2 + 97)) (q := 39) 1 rfl ?_
          refine e_Ok.callV rfl (e_dq hd rfl) rfl (lJ (a := a) (j := y2) (by omega) (by omega) (by omega)) rfl rfl (c_91 (a := a) (j := y2) j10 (by omega) (by omega) (g := v1 (17 * a + y2 + 97) 6) (by omega) rfl (s := v1 (17 * a + y2 + 97) 8) (by omega) rfl) (fun r49 w50 h51 => ?_)
          obtain ⟨z52, rfl, rfl, q53r, q53d⟩ := h51
          clear hqg
          refine e_Ok.nrm (q := 42) (st' := [(0, z52), (1, 17 * a + y2 + 97)]) rfl rfl ?_
          refine e_Ok.ps0 (q := 49) 1 rfl ?_
          refine e_Ok.putf rfl (lJ (a := a) (j := y2) (by omega) (by omega) (by omega)) rfl rfl ?_
          generalize hw54 : e_up v1 (17 * a + y2 + 97) 8 z52 = w54
          have f55 : e_fr (kGo a) w w54 := e_fr.up j9 hw54 (by unfold kGo; omega)
          have l56 : w54 (17 * a + 86) 8 = w (17 * a + 86) 8 := f55 (17 * a + 86) 8 (by first | exact no_c2_14 (by omega) | (unfold kGo; omega))
          have l57 : w54 (17 * a + 86) 11 = w (17 * a + 86) 11 := f55 (17 * a + 86) 11 (by first | exact no_c2_15 (by omega) | (unfold kGo; omega))
          have hT58 : e_Has kTy w54 := e_Has.upr j10 hw54 (kJ_8 (a := a) (j := y2) (by omega) (by omega) (by omega)) (by omega)
          refine e_Ok.ps2 (x := (1, 17 * a + y2 + 97)) (y := (1, 17 * a + y2 + 97)) (q := 54) 2 rfl ?_
          refine e_Ok.getf (z := v1 (17 * a + y2 + 97) 7) rfl (lJ (a := a) (j := y2) (by omega) (by omega) (by omega)) rfl rfl (e_uq hw54 (Or.inr (by decide)) rfl) (by omega) ?_
          refine e_Ok.ps1 (x := (1, 17 * a + y2 + 97)) (q := 58) 1 rfl ?_
          refine e_Ok.getf (z := z52) rfl (lJ (a := a) (j := y2) (by omega) (by omega) (by omega)) rfl rfl (e_ue hw54) (by omega) ?_
          refine e_Ok.add (z := v1 (17 * a + y2 + 97) 7 + z52) rfl rfl (by omega) ?_
          refine e_Ok.putf rfl (lJ (a := a) (j := y2) (by omega) (by omega) (by omega)) rfl rfl ?_
          generalize hw59 : e_up w54 (17 * a + y2 + 97) 7 (v1 (17 * a + y2 + 97) 7 + z52) = w59
          have f60 : e_fr (kGo a) w w59 := e_fr.up f55 hw59 (by unfold kGo; omega)
          have l61 : w59 (17 * a + 86) 8 = w (17 * a + 86) 8 := f60 (17 * a + 86) 8 (by first | exact no_c2_14 (by omega) | (unfold kGo; omega))
          have l62 : w59 (17 * a + 86) 11 = w (17 * a + 86) 11 := f60 (17 * a + 86) 11 (by first | exact no_c2_15 (by omega) | (unfold kGo; omega))
          have hT63 : e_Has kTy w59 := e_Has.upr hT58 hw59 (kJ_7 (a := a) (j := y2) (by omega) (by omega) (by omega)) (by omega)
          refine e_Ok.ps1 (x := (0, y1)) (q := 66) 1 rfl ?_
          refine e_Ok.if1 rfl (fun h64 => ?_) (fun h64 => ?_)
          · replace h64 : (y1 : Int) ≠ 0 := h64
            refine e_Ok.run (t' := (82, [(1, (0, 1)), (3, (1, 17 * a + y2 + 97)), (0, (1, 17 * a + 86)), (2, (0, y2))], [], w59)) 3 rfl ?_
            refine e_Ok.inc (z := y2 + 1) rfl rfl (by first | with_reducible rfl | omega) (by omega) ?_
            show e_Ok 20 elay kcode eI (d + 1) 14 (85, [(2, (0, y2 + 1)), (1, (0, 1)), (3, (1, 17 * a + y2 + 97)), (0, (1, 17 * a + 86))], [], w59) _
            refine e_Ok.ps0 (q := 14) 1 rfl ?_
            refine e_Ok.sub kAlk (e_sub_of rfl ?_) (ih8 1 (y2 + 1) w59 ⟨f60, hT63, (fun i g1 g2 => if e : i = y2 then by rw [e]; exact jq.step hq hw54 hw59 (by omega) (Or.inr ⟨by omega, q53d⟩) else jq.oth (jq.oth (j11 i g1 g2) hw54 (by omega)) hw59 (by omega)), (aK.up (aK.up j12 hw54 (by omega) (by omega) (by omega)) hw59 (by omega) (by omega) (by omega)), by omega, by omega⟩ (by omega))
            exact ⟨rfl, rfl, rfl, trivial⟩
          · replace h64 : (y1 : Int) = 0 := Classical.not_not.mp (show ¬ ((y1 : Int) ≠ 0) from h64)
            refine e_Ok.ps1 (x := (1, 17 * a + y2 + 97)) (q := 70) 1 rfl ?_
            refine e_Ok.getf (z := z52) rfl (lJ (a := a) (j := y2) (by omega) (by omega) (by omega)) rfl rfl (e_uq hw59 (Or.inr (by decide)) (e_ue hw54)) (by omega) ?_
            have hJ67 : ∀ m66 : Int, 0 ≤ m66 ∧ m66 ≤ 1 → e_Ok 20 elay kcode eI (d + 1) 14 (81, [(3, (1, 17 * a + y2 + 97)), (0, (1, 17 * a + 86)), (1, (0, y1)), (2, (0, y2))], [(0, m66)], w59) (fun r w' => ∃ z : Int, r = [(0, z)] ∧ e_fr (kGo a) w w' ∧ e_Has kTy w' ∧ (0 ≤ z ∧ z ≤ 1) ∧ (aMs w' a (w (17 * a + 86) 8) (w (17 * a + 86) 11) ∧ aK w' a)) := by
              intro m66 m66r
              refine e_Ok.run (t' := (82, [(1, (0, m66)), (3, (1, 17 * a + y2 + 97)), (0, (1, 17 * a + 86)), (2, (0, y2))], [], w59)) 1 rfl ?_
              refine e_Ok.inc (z := y2 + 1) rfl rfl (by first | with_reducible rfl | omega) (by omega) ?_
              show e_Ok 20 elay kcode eI (d + 1) 14 (85, [(2, (0, y2 + 1)), (1, (0, m66)), (3, (1, 17 * a + y2 + 97)), (0, (1, 17 * a + 86))], [], w59) _
              refine e_Ok.ps0 (q := 14) 1 rfl ?_
              refine e_Ok.sub kAlk (e_sub_of rfl ?_) (ih8 m66 (y2 + 1) w59 ⟨f60, hT63, (fun i g1 g2 => if e : i = y2 then by rw [e]; exact jq.step hq hw54 hw59 (by omega) (Or.inr ⟨by omega, q53d⟩) else jq.oth (jq.oth (j11 i g1 g2) hw54 (by omega)) hw59 (by omega)), (aK.up (aK.up j12 hw54 (by omega) (by omega) (by omega)) hw59 (by omega) (by omega) (by omega)), by omega, by omega⟩ (by omega))
              exact ⟨rfl, rfl, rfl, trivial⟩
            refine e_Ok.if1 rfl (fun h65 => ?_) (fun h65 => ?_)
            · exact e_Ok.run 1 rfl (hJ67 0 (by omega))
            · exact e_Ok.run 2 rfl (hJ67 1 (by omega))
  refine e_Ok.sub kAlk (e_sub_of rfl ?_) (hL7 (6 + 1 : Int).toNat 0 0 w2 ⟨f3, hT6, (fun i g1 g2 => jq.oth (hm i g1 g2) hw2 (by omega)), (aK.up kx hw2 (by omega) (by omega) (by omega)), by omega, by omega⟩ (by omega))
  exact ⟨rfl, rfl, rfl, trivial⟩
end
end
