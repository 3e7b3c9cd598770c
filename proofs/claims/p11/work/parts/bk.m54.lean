noncomputable section
theorem c_354 {d : Nat} {w : eW} (hT : e_Has mTy w) (hH : e_Has hTy w) {N m n : Int} (hN : N ≤ 4000) (hm : 0 ≤ m ∧ m ≤ 4099) (hn : 0 ≤ n ∧ n ≤ 4099) (h1 : 0 ≤ w 342 m ∧ 0 ≤ w 343 m ∧ w 342 m + w 343 m ≤ N) (h2 : 0 ≤ w 342 n ∧ 0 ≤ w 343 n ∧ w 342 n + w 343 n ≤ N) : e_Ok 20 elay ecode eI d 354 (0, [(0, (1, 275)), (1, (0, m)), (2, (0, n))], [], w) (fun r w' => ∃ z : Int, r = [(0, z)] ∧ w = w' ∧ 0 ≤ z ∧ z ≤ 1) := by
  refine e_Ok.ps1 (x := (1, 275)) (q := 1) 1 rfl ?_
  refine e_Ok.getr (z := 343) rfl (el_o rfl) rfl (ef_o rfl) (e_Has.eq hT (mt_o rfl)) ⟨by decide, by decide⟩ ?_
  refine e_Ok.ps1 (x := (0, m)) (q := 5) 1 rfl ?_
  refine e_Ok.ald (z := w 343 m) rfl (el_o rfl) rfl (by omega) rfl (by omega) ?_
  refine e_Ok.ps1 (x := (1, 275)) (q := 7) 1 rfl ?_
  refine e_Ok.getr (z := 343) rfl (el_o rfl) rfl (ef_o rfl) (e_Has.eq hT (mt_o rfl)) ⟨by decide, by decide⟩ ?_
  refine e_Ok.ps1 (x := (0, n)) (q := 11) 1 rfl ?_
  refine e_Ok.ald (z := w 343 n) rfl (el_o rfl) rfl (by omega) rfl (by omega) ?_
  refine e_Ok.if2 rfl (fun h1 => ?_) (fun h1 => ?_)
  · replace h1 : (w 343 m : Int) ≠ w 343 n := h1
    refine e_Ok.run (t' := (24, [(4, (0, 0)), (3, (0, 0)), (0, (1, 275)), (1, (0, m)), (2, (0, n))], [], w)) 4 rfl ?_
    have hL2 : ∀ (nn : Nat) (y3 : Int) (y4 : Int), ((0 ≤ y3 ∧ y3 ≤ 1)) ∧ ((0 ≤ y4 ∧ y4 ≤ w 343 m)) ∧ (y3 = 1 → w 343 m = w 343 n) → 4000 - y4 < nn → e_Ok 20 elay ecode eI d 354 (24, [(0, (1, 275)), (1, (0, m)), (2, (0, n)), (3, (0, y3)), (4, (0, y4))], [], w) (fun r w' => ∃ z : Int, r = [(0, z)] ∧ w = w' ∧ 0 ≤ z ∧ z ≤ 1) := by
      intro nn
      induction nn with
      | zero => intro y3 y4 hj hm; obtain ⟨j4, j5, j6⟩ := hj; exfalso; omega
      | succ nn ih3 =>
        intro y3 y4 hj hm
        obtain ⟨j4, j5, j6⟩ := hj
        refine e_Ok.run (t' := (27, [(0, (1, 275)), (1, (0, m)), (2, (0, n)), (3, (0, y3)), (4, (0, y4))], [(1, 275), (0, y4)], w)) 2 rfl ?_
        refine e_Ok.getr (z := 343) rfl (el_o rfl) rfl (ef_o rfl) (e_Has.eq hT (mt_o rfl)) ⟨by decide, by decide⟩ ?_
        refine e_Ok.ps1 (x := (0, m)) (q := 31) 1 rfl ?_
        refine e_Ok.ald (z := w 343 m) rfl (el_o rfl) rfl (by omega) rfl (by omega) ?_
        refine e_Ok.if2 rfl (fun h7 => ?_) (fun h7 => ?_)
        · replace h7 : (y4 : Int) ≥ w 343 m := h7
          refine e_Ok.ps1 (x := (0, y3)) (q := 83) 1 rfl ?_
          refine e_Ok.retb rfl (by omega) ?_
          exact ⟨_, rfl, rfl, by omega, by omega⟩
        · replace h7 : (y4 : Int) < w 343 m := Int.not_le.mp (show ¬ ((y4 : Int) ≥ w 343 m) from h7)
          refine e_Ok.ps1 (x := (0, y3)) (q := 36) 1 rfl ?_
          refine e_Ok.if1 rfl (fun h8 => ?_) (fun h8 => ?_)
          · replace h8 : (y3 : Int) = 0 := h8
            refine e_Ok.ps1 (x := (0, y3)) (q := 83) 1 rfl ?_
            refine e_Ok.retb rfl (by omega) ?_
            exact ⟨_, rfl, rfl, by omega, by omega⟩
          · replace h8 : (y3 : Int) ≠ 0 := (show ¬ ((y3 : Int) = 0) from h8)
            refine e_Ok.ps1 (x := (1, 275)) (q := 40) 1 rfl ?_
            refine e_Ok.getr (z := 281) rfl (el_o rfl) rfl (ef_o rfl) (e_Has.eq hT (mt_o rfl)) ⟨by decide, by decide⟩ ?_
            refine e_Ok.ps1 (x := (1, 275)) (q := 44) 1 rfl ?_
            refine e_Ok.getr (z := 342) rfl (el_o rfl) rfl (ef_o rfl) (e_Has.eq hT (mt_o rfl)) ⟨by decide, by decide⟩ ?_
            refine e_Ok.ps1 (x := (0, m)) (q := 48) 1 rfl ?_
            refine e_Ok.ald (z := w 342 m) rfl (el_o rfl) rfl (by omega) rfl (by omega) ?_
            refine e_Ok.ps1 (x := (0, y4)) (q := 51) 1 rfl ?_
            refine e_Ok.add (z := w 342 m + y4) rfl rfl (by omega) ?_
            have h9 := (e_Has.get hH (c := 281) (k := w 342 m + y4) (lo := (-128)) (hi := 127) rfl (by decide))
            refine e_Ok.ald (z := w 281 (w 342 m + y4)) rfl (el_o rfl) rfl (by omega) rfl (e_bq h9 (by decide) (by decide)) ?_
            refine e_Ok.ps1 (x := (1, 275)) (q := 54) 1 rfl ?_
            refine e_Ok.getr (z := 281) rfl (el_o rfl) rfl (ef_o rfl) (e_Has.eq hT (mt_o rfl)) ⟨by decide, by decide⟩ ?_
            refine e_Ok.ps1 (x := (1, 275)) (q := 58) 1 rfl ?_
            refine e_Ok.getr (z := 342) rfl (el_o rfl) rfl (ef_o rfl) (e_Has.eq hT (mt_o rfl)) ⟨by decide, by decide⟩ ?_
            refine e_Ok.ps1 (x := (0, n)) (q := 62) 1 rfl ?_
            refine e_Ok.ald (z := w 342 n) rfl (el_o rfl) rfl (by omega) rfl (by omega) ?_
            refine e_Ok.ps1 (x := (0, y4)) (q := 65) 1 rfl ?_
            refine e_Ok.add (z := w 342 n + y4) rfl rfl (by omega) ?_
            have h10 := (e_Has.get hH (c := 281) (k := w 342 n + y4) (lo := (-128)) (hi := 127) rfl (by decide))
            refine e_Ok.ald (z := w 281 (w 342 n + y4)) rfl (el_o rfl) rfl (by omega) rfl (e_bq h10 (by decide) (by decide)) ?_
            refine e_Ok.if2 rfl (fun h11 => ?_) (fun h11 => ?_)
            · replace h11 : (w 281 (w 342 m + y4) : Int) ≠ w 281 (w 342 n + y4) := h11
              refine e_Ok.run (t' := (76, [(3, (0, 0)), (0, (1, 275)), (1, (0, m)), (2, (0, n)), (4, (0, y4))], [], w)) 2 rfl ?_
              refine e_Ok.inc (z := y4 + 1) rfl rfl (by first | with_reducible rfl | omega) (by omega) ?_
              show e_Ok 20 elay ecode eI d 354 (79, [(4, (0, y4 + 1)), (3, (0, 0)), (0, (1, 275)), (1, (0, m)), (2, (0, n))], [], w) _
              refine e_Ok.ps0 (q := 24) 1 rfl ?_
              refine e_Ok.sub eAlk (e_sub_of rfl ?_) (ih3 0 (y4 + 1) ⟨by omega, by omega, (fun z => by omega)⟩ (by omega))
              exact ⟨rfl, rfl, rfl, rfl, rfl, trivial⟩
            · replace h11 : (w 281 (w 342 m + y4) : Int) = w 281 (w 342 n + y4) := Classical.not_not.mp (show ¬ ((w 281 (w 342 m + y4) : Int) ≠ w 281 (w 342 n + y4)) from h11)
              refine e_Ok.run (t' := (76, [(3, (0, 1)), (0, (1, 275)), (1, (0, m)), (2, (0, n)), (4, (0, y4))], [], w)) 3 rfl ?_
              refine e_Ok.inc (z := y4 + 1) rfl rfl (by first | with_reducible rfl | omega) (by omega) ?_
              show e_Ok 20 elay ecode eI d 354 (79, [(4, (0, y4 + 1)), (3, (0, 1)), (0, (1, 275)), (1, (0, m)), (2, (0, n))], [], w) _
              refine e_Ok.ps0 (q := 24) 1 rfl ?_
              refine e_Ok.sub eAlk (e_sub_of rfl ?_) (ih3 1 (y4 + 1) ⟨by omega, by omega, (fun z => by omega)⟩ (by omega))
              exact ⟨rfl, rfl, rfl, rfl, rfl, trivial⟩
    refine e_Ok.sub eAlk (e_sub_of rfl ?_) (hL2 (4001 + 1 : Int).toNat 0 0 ⟨by omega, by omega, (fun z => by omega)⟩ (by omega))
    exact ⟨rfl, rfl, rfl, rfl, rfl, trivial⟩
  · replace h1 : (w 343 m : Int) = w 343 n := Classical.not_not.mp (show ¬ ((w 343 m : Int) ≠ w 343 n) from h1)
    refine e_Ok.run (t' := (24, [(4, (0, 0)), (3, (0, 1)), (0, (1, 275)), (1, (0, m)), (2, (0, n))], [], w)) 5 rfl ?_
    have hL12 : ∀ (nn : Nat) (y3 : Int) (y4 : Int), ((0 ≤ y3 ∧ y3 ≤ 1)) ∧ ((0 ≤ y4 ∧ y4 ≤ w 343 m)) ∧ (y3 = 1 → w 343 m = w 343 n) → 4000 - y4 < nn → e_Ok 20 elay ecode eI d 354 (24, [(0, (1, 275)), (1, (0, m)), (2, (0, n)), (3, (0, y3)), (4, (0, y4))], [], w) (fun r w' => ∃ z : Int, r = [(0, z)] ∧ w = w' ∧ 0 ≤ z ∧ z ≤ 1) := by
      intro nn
      induction nn with
      | zero => intro y3 y4 hj hm; obtain ⟨j14, j15, j16⟩ := hj; exfalso; omega
      | succ nn ih13 =>
        intro y3 y4 hj hm
        obtain ⟨j14, j15, j16⟩ := hj
        refine e_Ok.run (t' := (27, [(0, (1, 275)), (1, (0, m)), (2, (0, n)), (3, (0, y3)), (4, (0, y4))], [(1, 275), (0, y4)], w)) 2 rfl ?_
        refine e_Ok.getr (z := 343) rfl (el_o rfl) rfl (ef_o rfl) (e_Has.eq hT (mt_o rfl)) ⟨by decide, by decide⟩ ?_
        refine e_Ok.ps1 (x := (0, m)) (q := 31) 1 rfl ?_
        refine e_Ok.ald (z := w 343 m) rfl (el_o rfl) rfl (by omega) rfl (by omega) ?_
        refine e_Ok.if2 rfl (fun h17 => ?_) (fun h17 => ?_)
        · replace h17 : (y4 : Int) ≥ w 343 m := h17
          refine e_Ok.ps1 (x := (0, y3)) (q := 83) 1 rfl ?_
          refine e_Ok.retb rfl (by omega) ?_
          exact ⟨_, rfl, rfl, by omega, by omega⟩
        · replace h17 : (y4 : Int) < w 343 m := Int.not_le.mp (show ¬ ((y4 : Int) ≥ w 343 m) from h17)
          refine e_Ok.ps1 (x := (0, y3)) (q := 36) 1 rfl ?_
          refine e_Ok.if1 rfl (fun h18 => ?_) (fun h18 => ?_)
          · replace h18 : (y3 : Int) = 0 := h18
            refine e_Ok.ps1 (x := (0, y3)) (q := 83) 1 rfl ?_
            refine e_Ok.retb rfl (by omega) ?_
            exact ⟨_, rfl, rfl, by omega, by omega⟩
          · replace h18 : (y3 : Int) ≠ 0 := (show ¬ ((y3 : Int) = 0) from h18)
            refine e_Ok.ps1 (x := (1, 275)) (q := 40) 1 rfl ?_
            refine e_Ok.getr (z := 281) rfl (el_o rfl) rfl (ef_o rfl) (e_Has.eq hT (mt_o rfl)) ⟨by decide, by decide⟩ ?_
            refine e_Ok.ps1 (x := (1, 275)) (q := 44) 1 rfl ?_
            refine e_Ok.getr (z := 342) rfl (el_o rfl) rfl (ef_o rfl) (e_Has.eq hT (mt_o rfl)) ⟨by decide, by decide⟩ ?_
            refine e_Ok.ps1 (x := (0, m)) (q := 48) 1 rfl ?_
            refine e_Ok.ald (z := w 342 m) rfl (el_o rfl) rfl (by omega) rfl (by omega) ?_
            refine e_Ok.ps1 (x := (0, y4)) (q := 51) 1 rfl ?_
            refine e_Ok.add (z := w 342 m + y4) rfl rfl (by omega) ?_
            have h19 := (e_Has.get hH (c := 281) (k := w 342 m + y4) (lo := (-128)) (hi := 127) rfl (by decide))
            refine e_Ok.ald (z := w 281 (w 342 m + y4)) rfl (el_o rfl) rfl (by omega) rfl (e_bq h19 (by decide) (by decide)) ?_
            refine e_Ok.ps1 (x := (1, 275)) (q := 54) 1 rfl ?_
            refine e_Ok.getr (z := 281) rfl (el_o rfl) rfl (ef_o rfl) (e_Has.eq hT (mt_o rfl)) ⟨by decide, by decide⟩ ?_
            refine e_Ok.ps1 (x := (1, 275)) (q := 58) 1 rfl ?_
            refine e_Ok.getr (z := 342) rfl (el_o rfl) rfl (ef_o rfl) (e_Has.eq hT (mt_o rfl)) ⟨by decide, by decide⟩ ?_
            refine e_Ok.ps1 (x := (0, n)) (q := 62) 1 rfl ?_
            refine e_Ok.ald (z := w 342 n) rfl (el_o rfl) rfl (by omega) rfl (by omega) ?_
            refine e_Ok.ps1 (x := (0, y4)) (q := 65) 1 rfl ?_
            refine e_Ok.add (z := w 342 n + y4) rfl rfl (by omega) ?_
            have h20 := (e_Has.get hH (c := 281) (k := w 342 n + y4) (lo := (-128)) (hi := 127) rfl (by decide))
            refine e_Ok.ald (z := w 281 (w 342 n + y4)) rfl (el_o rfl) rfl (by omega) rfl (e_bq h20 (by decide) (by decide)) ?_
            refine e_Ok.if2 rfl (fun h21 => ?_) (fun h21 => ?_)
            · replace h21 : (w 281 (w 342 m + y4) : Int) ≠ w 281 (w 342 n + y4) := h21
              refine e_Ok.run (t' := (76, [(3, (0, 0)), (0, (1, 275)), (1, (0, m)), (2, (0, n)), (4, (0, y4))], [], w)) 2 rfl ?_
              refine e_Ok.inc (z := y4 + 1) rfl rfl (by first | with_reducible rfl | omega) (by omega) ?_
              show e_Ok 20 elay ecode eI d 354 (79, [(4, (0, y4 + 1)), (3, (0, 0)), (0, (1, 275)), (1, (0, m)), (2, (0, n))], [], w) _
              refine e_Ok.ps0 (q := 24) 1 rfl ?_
              refine e_Ok.sub eAlk (e_sub_of rfl ?_) (ih13 0 (y4 + 1) ⟨by omega, by omega, (fun z => by omega)⟩ (by omega))
              exact ⟨rfl, rfl, rfl, rfl, rfl, trivial⟩
            · replace h21 : (w 281 (w 342 m + y4) : Int) = w 281 (w 342 n + y4) := Classical.not_not.mp (show ¬ ((w 281 (w 342 m + y4) : Int) ≠ w 281 (w 342 n + y4)) from h21)
              refine e_Ok.run (t' := (76, [(3, (0, 1)), (0, (1, 275)), (1, (0, m)), (2, (0, n)), (4, (0, y4))], [], w)) 3 rfl ?_
              refine e_Ok.inc (z := y4 + 1) rfl rfl (by first | with_reducible rfl | omega) (by omega) ?_
              show e_Ok 20 elay ecode eI d 354 (79, [(4, (0, y4 + 1)), (3, (0, 1)), (0, (1, 275)), (1, (0, m)), (2, (0, n))], [], w) _
              refine e_Ok.ps0 (q := 24) 1 rfl ?_
              refine e_Ok.sub eAlk (e_sub_of rfl ?_) (ih13 1 (y4 + 1) ⟨by omega, by omega, (fun z => by omega)⟩ (by omega))
              exact ⟨rfl, rfl, rfl, rfl, rfl, trivial⟩
    refine e_Ok.sub eAlk (e_sub_of rfl ?_) (hL12 (4001 + 1 : Int).toNat 1 0 ⟨by omega, by omega, (fun z => by omega)⟩ (by omega))
    exact ⟨rfl, rfl, rfl, rfl, rfl, trivial⟩
theorem c_355 {d : Nat} (hd : 21 ≤ d) {w : eW} (hT : e_Has mTy w) (hH : e_Has hTy w) {N mm f n q : Int} (hN : N ≤ 4000) (hmm : 0 ≤ mm ∧ mm ≤ 4099) (hf : 0 ≤ f ∧ f ≤ 1) (hn : 0 ≤ n ∧ n < mm) (hq : 0 ≤ q ∧ q ≤ mm) (hR : ∀ m, 0 ≤ m → m < mm → 0 ≤ w 341 m ∧ w 341 m ≤ 4) (hB : ∀ m, 0 ≤ m → m < mm → w 341 m ≠ 4 → 0 ≤ w 342 m ∧ 0 ≤ w 343 m ∧ w 342 m + w 343 m ≤ N) (h4 : w 341 n ≠ 4) : e_Ok 20 elay ecode eI d 355 (0, [(0, (1, 275)), (1, (0, f)), (2, (0, n)), (3, (0, q))], [], w) (fun r w' => ∃ z : Int, r = [(0, z)] ∧ w = w' ∧ -1 ≤ z ∧ z ≤ 4099 ∧ (0 ≤ z → z < cntK w f q)) := by
  obtain ⟨d, rfl⟩ : ∃ e, d = e + 1 := ⟨d - 1, by omega⟩
  refine e_Ok.run (t' := (6, [(5, (0, 0)), (4, (0, 0)), (0, (1, 275)), (1, (0, f)), (2, (0, n)), (3, (0, q))], [], w)) 4 rfl ?_
  have hL1 : ∀ (nn : Nat) (y4 : Int) (y5 : Int), (y4 = cntK w f y5) ∧ ((0 ≤ y5 ∧ y5 ≤ q ∧ 0 ≤ y4 ∧ y4 ≤ y5)) → q - y5 < nn → e_Ok 20 elay ecode eI (d + 1) 355 (6, [(0, (1, 275)), (1, (0, f)), (2, (0, n)), (3, (0, q)), (4, (0, y4)), (5, (0, y5))], [], w) (fun r w' => ∃ z : Int, r = [(0, z)] ∧ w = w' ∧ -1 ≤ z ∧ z ≤ 4099 ∧ (0 ≤ z → z < cntK w f q)) := by
    intro nn
    induction nn with
    | zero => intro y4 y5 hj hm; obtain ⟨j3, j4⟩ := hj; exfalso; omega
    | succ nn ih2 =>
      intro y4 y5 hj hm
      obtain ⟨j3, j4⟩ := hj
      refine e_Ok.run (t' := (9, [(0, (1, 275)), (1, (0, f)), (2, (0, n)), (3, (0, q)), (4, (0, y4)), (5, (0, y5))], [(0, q), (0, y5)], w)) 2 rfl ?_
      refine e_Ok.if2 rfl (fun h5 => ?_) (fun h5 => ?_)
      · replace h5 : (y5 : Int) ≥ q := h5
        refine e_Ok.ps1 (x := (0, (-1))) (q := 46) 1 rfl ?_
        refine e_Ok.rets rfl rfl ?_
        exact ⟨_, rfl, rfl, by decide, by decide, fun z => absurd z (by decide)⟩
      · replace h5 : (y5 : Int) < q := Int.not_le.mp (show ¬ ((y5 : Int) ≥ q) from h5)
        have hk := hR y5 (by omega) (by omega)
        refine e_Ok.ps1 (x := (1, 275)) (q := 13) 1 rfl ?_
        refine e_Ok.getr (z := 341) rfl (el_o rfl) rfl (ef_o rfl) (e_Has.eq hT (mt_o rfl)) ⟨by decide, by decide⟩ ?_
        refine e_Ok.ps1 (x := (0, y5)) (q := 18) 1 rfl ?_
        refine e_Ok.ald (z := w 341 y5) rfl (el_o rfl) rfl (by omega) rfl (by omega) ?_
        refine e_Ok.ps1 (x := (0, f)) (q := 20) 1 rfl ?_
        refine e_Ok.if2 rfl (fun h6 => ?_) (fun h6 => ?_)
        · replace h6 : (w 341 y5 : Int) ≠ f := h6
          refine e_Ok.inc (z := y5 + 1) rfl rfl (by first | with_reducible rfl | omega) (by omega) ?_
          show e_Ok 20 elay ecode eI (d + 1) 355 (42, [(5, (0, y5 + 1)), (0, (1, 275)), (1, (0, f)), (2, (0, n)), (3, (0, q)), (4, (0, y4))], [], w) _
          refine e_Ok.ps0 (q := 6) 1 rfl ?_
          refine e_Ok.sub eAlk (e_sub_of rfl ?_) (ih2 y4 (y5 + 1) ⟨(by rw [cntK_next w f (show 0 ≤ y5 by omega)]; split <;> omega), by omega⟩ (by omega))
          exact ⟨rfl, rfl, rfl, rfl, rfl, rfl, trivial⟩
        · replace h6 : (w 341 y5 : Int) = f := Classical.not_not.mp (show ¬ ((w 341 y5 : Int) ≠ f) from h6)
          refine e_Ok.ps3 (x := (0, n)) (y := (0, y5)) (z := (1, 275)) (q := 27) 3 rfl ?_
          refine e_Ok.callV rfl (e_dq hd rfl) rfl rfl rfl rfl (c_354 hT hH (N := N) hN (by omega) (by omega) (hB y5 (by omega) (by omega) (by omega)) (hB n (by omega) (by omega) h4)) (fun r7 w8 h9 => ?_)
          obtain ⟨z10, rfl, rfl, q11⟩ := h9
          refine e_Ok.nrm (q := 30) (st' := [(0, z10)]) rfl rfl ?_
          refine e_Ok.if1 rfl (fun h12 => ?_) (fun h12 => ?_)
          · replace h12 : (z10 : Int) = 0 := h12
            refine e_Ok.inc (z := y4 + 1) rfl rfl (by first | with_reducible rfl | omega) (by omega) ?_
            show e_Ok 20 elay ecode eI (d + 1) 355 (39, [(4, (0, y4 + 1)), (0, (1, 275)), (1, (0, f)), (2, (0, n)), (3, (0, q)), (5, (0, y5))], [], w) _
            refine e_Ok.inc (z := y5 + 1) rfl rfl (by first | with_reducible rfl | omega) (by omega) ?_
            show e_Ok 20 elay ecode eI (d + 1) 355 (42, [(5, (0, y5 + 1)), (4, (0, y4 + 1)), (0, (1, 275)), (1, (0, f)), (2, (0, n)), (3, (0, q))], [], w) _
            refine e_Ok.ps0 (q := 6) 1 rfl ?_
            refine e_Ok.sub eAlk (e_sub_of rfl ?_) (ih2 (y4 + 1) (y5 + 1) ⟨(by rw [cntK_next w f (show 0 ≤ y5 by omega)]; split <;> omega), by omega⟩ (by omega))
            exact ⟨rfl, rfl, rfl, rfl, rfl, rfl, trivial⟩
          · replace h12 : (z10 : Int) ≠ 0 := (show ¬ ((z10 : Int) = 0) from h12)
            refine e_Ok.ps1 (x := (0, y4)) (q := 35) 1 rfl ?_
            refine e_Ok.rets rfl rfl ?_
            exact ⟨_, rfl, rfl, by omega, by omega, fun _ => by rw [j3]; exact cntK_lt (by omega) (by omega) (by omega)⟩
  refine e_Ok.sub eAlk (e_sub_of rfl ?_) (hL1 (4100 + 1 : Int).toNat 0 0 ⟨(cntK_zero w f).symm, by omega⟩ (by omega))
  exact ⟨rfl, rfl, rfl, rfl, rfl, rfl, trivial⟩
theorem c_356_0 {d : Nat} (hd : 22 ≤ d) {w : eW} (hT : e_Has mTy w) (hH : e_Has hTy w) {N n mm : Int} (hN : N ≤ 4000) (hm94 : w 275 94 = mm) (hmm : 0 ≤ mm ∧ mm ≤ 4099) (hnr : 0 ≤ n ∧ n ≤ 9900) (hf : w 275 88 ≠ 0) : e_Ok 20 elay ecode eI d 356 (0, [(0, (1, 275))], [], w) (fun r w' => r = [] ∧ w = w') := by
  obtain ⟨d, rfl⟩ : ∃ e, d = e + 1 := ⟨d - 1, by omega⟩
  have hfr := e_Has.get hH (c := 275) (k := 88) (lo := 0) (hi := 7) rfl (by decide)
  refine e_Ok.run (t' := (4, [(1, (0, 0)), (0, (1, 275))], [(1, 275), (0, 0)], w)) 4 rfl ?_
  refine e_Ok.getf (z := mm) rfl (el_o rfl) rfl (ef_o rfl) hm94 (by omega) ?_
  refine e_Ok.if2 rfl (fun h1 => ?_) (fun h1 => ?_)
  · replace h1 : (0 : Int) ≥ mm := h1
    refine e_Ok.rets rfl rfl ?_
    exact ⟨rfl, rfl⟩
  · replace h1 : (0 : Int) < mm := Int.not_le.mp (show ¬ ((0 : Int) ≥ mm) from h1)
    refine e_Ok.ps1 (x := (1, 275)) (q := 11) 1 rfl ?_
    refine e_Ok.getf (z := w 275 88) rfl (el_o rfl) rfl (ef_o rfl) rfl (by omega) ?_
    refine e_Ok.if1 rfl (fun h2 => ?_) (fun h2 => ?_)
    · replace h2 : (w 275 88 : Int) ≠ 0 := h2
      refine e_Ok.rets rfl rfl ?_
      exact ⟨rfl, rfl⟩
    · replace h2 : (w 275 88 : Int) = 0 := Classical.not_not.mp (show ¬ ((w 275 88 : Int) ≠ 0) from h2)
      exfalso; omega
theorem no_bk_0 : ¬ mRsv 275 94 := by unfold mRsv; omega
theorem no_bk_1 {k : Int} : ¬ mRsv 341 k := by unfold mRsv; omega
theorem no_bk_2 {k : Int} : ¬ mRsv 342 k := by unfold mRsv; omega
theorem no_bk_3 {k : Int} : ¬ mRsv 343 k := by unfold mRsv; omega
theorem no_bk_4 : ¬ mRsv 275 90 := by unfold mRsv; omega
theorem no_bk_5 : ¬ mRsv 275 66 := by unfold mRsv; omega
theorem no_bk_6 : ¬ mRsv 275 93 := by unfold mRsv; omega
theorem no_bk_7 {k : Int} : ¬ mRsv 344 k := by unfold mRsv; omega
theorem no_bk_8 : ¬ mRsv 275 91 := by unfold mRsv; omega
theorem no_bk_9 : ¬ mRsv 275 75 := by unfold mRsv; omega
theorem no_bk_10 : ¬ mRsv 275 74 := by unfold mRsv; omega
theorem no_bk_11 : ¬ mRsv 275 76 := by unfold mRsv; omega
set_option maxHeartbeats 4000000 in
theorem c_356 {d : Nat} (hd : 25 ≤ d) {w : eW} (hT : e_Has mTy w) (hH : e_Has hTy w) {N n mm : Int} (hN : N ≤ 4000) (hm94 : w 275 94 = mm) (hmm : 0 ≤ mm ∧ mm ≤ 4099) (hnr : 0 ≤ n ∧ n ≤ 9900) (h0 : w 275 88 = 0) (hNM : NM w N n mm) (hK : nK w n mm (fun _ => False)) (h9 : w 339 4 = 0) (h8 : w 338 4 = 0) : e_Ok 20 elay ecode eI d 356 (0, [(0, (1, 275))], [], w) (fun r w' => r = [] ∧ e_fr mRsv w w' ∧ e_Has mTy w' ∧ e_Has hTy w' ∧ (w' 275 88 = 0 → RS w w' n mm mm)) := by
  obtain ⟨d, rfl⟩ : ∃ e, d = e + 1 := ⟨d - 1, by omega⟩
  refine e_Ok.run (t' := (2, [(1, (0, 0)), (0, (1, 275))], [], w)) 2 rfl ?_
  have hL1 : ∀ (nn : Nat) (y1 : Int) (v1 : eW), e_fr mRsv w v1 ∧ e_Has mTy v1 ∧ e_Has hTy v1 ∧ ((0 ≤ y1 ∧ y1 ≤ mm)) ∧ Hid (v1 275 88 = 0 → RS w v1 n mm y1) → mm - y1 < nn → e_Ok 20 elay ecode eI (d + 1) 356 (2, [(0, (1, 275)), (1, (0, y1))], [], v1) (fun r w' => r = [] ∧ e_fr mRsv w w' ∧ e_Has mTy w' ∧ e_Has hTy w' ∧ (w' 275 88 = 0 → RS w w' n mm mm)) := by
    intro nn
    induction nn with
    | zero => intro y1 v1 hj hm; obtain ⟨j3, j4, j5, j6, j7⟩ := hj; exfalso; omega
    | succ nn ih2 =>
      intro y1 v1 hj hm
      obtain ⟨j3, j4, j5, j6, j7⟩ := hj
      have xf := e_Has.get j5 (c := 275) (k := 88) (lo := 0) (hi := 7) rfl (by decide)
      refine e_Ok.run (t' := (4, [(0, (1, 275)), (1, (0, y1))], [(1, 275), (0, y1)], v1)) 2 rfl ?_
      refine e_Ok.getf (z := mm) rfl (el_o rfl) rfl (ef_o rfl) ((j3 275 94 no_bk_0).trans hm94) (by omega) ?_
      refine e_Ok.if2 rfl (fun h8 => ?_) (fun h8 => ?_)
      · replace h8 : (y1 : Int) ≥ mm := h8
        refine e_Ok.rets rfl rfl ?_
        exact ⟨rfl, j3, j4, j5, (fun z => by have y := j7.out z; rw [show y1 = mm by omega] at y; exact y)⟩
      · replace h8 : (y1 : Int) < mm := Int.not_le.mp (show ¬ ((y1 : Int) ≥ mm) from h8)
        refine e_Ok.ps1 (x := (1, 275)) (q := 11) 1 rfl ?_
        have h9 := (e_Has.get j5 (c := 275) (k := 88) (lo := 0) (hi := 7) rfl (by decide))
        refine e_Ok.getf (z := v1 275 88) rfl (el_o rfl) rfl (ef_o rfl) rfl (e_bq h9 (by decide) (by decide)) ?_
        refine e_Ok.if1 rfl (fun h10 => ?_) (fun h10 => ?_)
        · replace h10 : (v1 275 88 : Int) ≠ 0 := h10
          refine e_Ok.rets rfl rfl ?_
          exact ⟨rfl, j3, j4, j5, (fun z => absurd z (by omega))⟩
        · replace h10 : (v1 275 88 : Int) = 0 := Classical.not_not.mp (show ¬ ((v1 275 88 : Int) ≠ 0) from h10)
          have hk := hNM.1 y1 (by omega) (by omega)
          unfold nmO at hk
          obtain ⟨hk1, hk2, hk3⟩ := hk
          replace hk3 := (show Hid _ from hk3)
          have hRS := j7.out (by omega)
          have hr1 := hRS.1
          have hr2 := hRS.2.1
          have hc0 := cntK_nn w 0 y1
          have hc1 := cntK_nn w 1 y1
          have h41 : ∀ m, v1 341 m = w 341 m := fun m => j3 341 m no_bk_1
          have hRv : ∀ m, 0 ≤ m → m < mm → 0 ≤ v1 341 m ∧ v1 341 m ≤ 4 := fun m m1 m2 => by rw [h41]; exact (hNM.1 m m1 m2).1
          have hBv : ∀ m, 0 ≤ m → m < mm → v1 341 m ≠ 4 → 0 ≤ v1 342 m ∧ 0 ≤ v1 343 m ∧ v1 342 m + v1 343 m ≤ N := fun m m1 m2 m3 => by rw [h41] at m3; rw [j3 342 m no_bk_2, j3 343 m no_bk_3]; have y := (hNM.1 m m1 m2).2.2 m3; exact ⟨y.1, y.2.1, y.2.2.1⟩
          refine e_Ok.ps1 (x := (1, 275)) (q := 18) 1 rfl ?_
          refine e_Ok.getr (z := 341) rfl (el_o rfl) rfl (ef_o rfl) ((j3 275 90 no_bk_4).trans (e_Has.eq hT (mt_o rfl))) ⟨by decide, by decide⟩ ?_
          refine e_Ok.ps1 (x := (0, y1)) (q := 22) 1 rfl ?_
          refine e_Ok.ald (z := w 341 y1) rfl (el_o rfl) rfl (by omega) ((j3 341 y1 no_bk_1).trans rfl) (by omega) ?_
          refine e_Ok.run (t' := (28, [(3, (0, 0)), (2, (0, w 341 y1)), (0, (1, 275)), (1, (0, y1))], [(0, 2), (0, w 341 y1)], v1)) 5 rfl ?_
          refine e_Ok.if2 rfl (fun h11 => ?_) (fun h11 => ?_)
          · replace h11 : (w 341 y1 : Int) ≥ 2 := h11
            refine e_Ok.ps2 (x := (0, 4)) (y := (0, w 341 y1)) (q := 147) 2 rfl ?_
            refine e_Ok.if2 rfl (fun h12 => ?_) (fun h12 => ?_)
            · replace h12 : (w 341 y1 : Int) ≠ 4 := h12
              have hk4 := hk3.out (by omega)
              refine e_Ok.ps3 (x := (0, 2)) (y := (0, w 341 y1)) (z := (1, 275)) (q := 159) 3 rfl ?_
              refine e_Ok.sub' (z := w 341 y1 - 2) rfl rfl (by omega) ?_
              refine e_Ok.ps2 (x := (1, 275)) (y := (0, y1)) (q := 162) 2 rfl ?_
              refine e_Ok.getf (z := mm) rfl (el_o rfl) rfl (ef_o rfl) ((j3 275 94 no_bk_0).trans hm94) (by omega) ?_
              refine e_Ok.callV rfl (e_dq hd rfl) rfl rfl rfl rfl (c_355 (e_dq hd rfl) j4 j5 (N := N) (mm := mm) (f := w 341 y1 - 2) (n := y1) (q := mm) hN hmm (by omega) (by omega) (by omega) hRv hBv (by rw [h41]; omega)) (fun r13 w14 h15 => ?_)
              obtain ⟨z16, rfl, rfl, q17, q17b, q17c⟩ := h15
              rw [cntK_eq h41] at q17c
              replace q17c := (show Hid _ from q17c)
              show e_Ok 20 elay ecode eI (d + 1) 356 (168, [(3, (0, 0)), (2, (0, w 341 y1)), (0, (1, 275)), (1, (0, y1))], [(0, z16)], v1) _
              refine e_Ok.run (t' := (172, [(4, (0, z16)), (3, (0, 0)), (2, (0, w 341 y1)), (0, (1, 275)), (1, (0, y1))], [(0, z16)], v1)) 2 rfl ?_
              refine e_Ok.if1 rfl (fun h18 => ?_) (fun h18 => ?_)
              · replace h18 : (z16 : Int) ≥ 0 := h18
                refine e_Ok.run (t' := (182, [(3, (0, 0)), (4, (0, z16)), (2, (0, w 341 y1)), (0, (1, 275)), (1, (0, y1))], [(1, 275)], v1)) 3 rfl ?_
                refine e_Ok.getr (z := 329) rfl (el_o rfl) rfl (ef_o rfl) ((j3 275 66 no_bk_5).trans (e_Has.eq hT (mt_o rfl))) ⟨by decide, by decide⟩ ?_
                refine e_Ok.ps2 (x := (1, 275)) (y := (0, 40000)) (q := 189) 2 rfl ?_
                refine e_Ok.getr (z := 344) rfl (el_o rfl) rfl (ef_o rfl) ((j3 275 93 no_bk_6).trans (e_Has.eq hT (mt_o rfl))) ⟨by decide, by decide⟩ ?_
                refine e_Ok.ps1 (x := (0, y1)) (q := 193) 1 rfl ?_
                refine e_Ok.ald (z := w 344 y1) rfl (el_o rfl) rfl (by omega) ((j3 344 y1 no_bk_7).trans rfl) (by omega) ?_
                refine e_Ok.add (z := w 344 y1 + 40000) rfl (Int.add_comm _ _) (by omega) ?_
                refine e_Ok.ps1 (x := (0, z16)) (q := 197) 1 rfl ?_
                refine e_Ok.ast rfl (el_o rfl) rfl rfl (by omega) ?_
                generalize hw19 : e_up v1 329 (w 344 y1 + 40000) z16 = w19
                have hH21 : e_Has hTy w19 := e_Has.ups j5 hw19 rfl
                have hT22 : e_Has mTy w19 := e_Has.upr j4 hw19 rfl (by omega)
                refine e_Ok.ps1 (x := (0, 0)) (q := 199) 1 rfl ?_
                refine e_Ok.if1 rfl (fun h23 => ?_) (fun h23 => ?_)
                · replace h23 : (0 : Int) = 0 := h23
                  refine e_Ok.inc (z := y1 + 1) rfl rfl (by first | with_reducible rfl | omega) (by omega) ?_
                  show e_Ok 20 elay ecode eI (d + 1) 356 (220, [(1, (0, y1 + 1)), (3, (0, 0)), (4, (0, z16)), (2, (0, w 341 y1)), (0, (1, 275))], [], w19) _
                  refine e_Ok.ps0 (q := 2) 1 rfl ?_
                  refine e_Ok.sub eAlk (e_sub_of rfl ?_) (ih2 (y1 + 1) w19 ⟨(show e_fr mRsv w w19 from e_fr.up j3 hw19 (by first | exact Or.inl ⟨rfl, (by omega)⟩ | (unfold mRsv; omega))), hT22, hH21, by omega, (Hid.mk (fun z => RS.use hRS (by omega) (by omega) hK hw19 ⟨by omega, q17c.out (by omega)⟩))⟩ (by omega))
                  exact ⟨rfl, rfl, trivial⟩
                · replace h23 : (0 : Int) ≠ 0 := (show ¬ ((0 : Int) = 0) from h23)
                  exfalso; omega
              · replace h18 : (z16 : Int) < 0 := Int.not_le.mp (show ¬ ((z16 : Int) ≥ 0) from h18)
                refine e_Ok.run (t' := (182, [(3, (0, 5)), (4, (0, z16)), (2, (0, w 341 y1)), (0, (1, 275)), (1, (0, y1))], [(1, 275)], v1)) 4 rfl ?_
                refine e_Ok.getr (z := 329) rfl (el_o rfl) rfl (ef_o rfl) ((j3 275 66 no_bk_5).trans (e_Has.eq hT (mt_o rfl))) ⟨by decide, by decide⟩ ?_
                refine e_Ok.ps2 (x := (1, 275)) (y := (0, 40000)) (q := 189) 2 rfl ?_
                refine e_Ok.getr (z := 344) rfl (el_o rfl) rfl (ef_o rfl) ((j3 275 93 no_bk_6).trans (e_Has.eq hT (mt_o rfl))) ⟨by decide, by decide⟩ ?_
                refine e_Ok.ps1 (x := (0, y1)) (q := 193) 1 rfl ?_
                refine e_Ok.ald (z := w 344 y1) rfl (el_o rfl) rfl (by omega) ((j3 344 y1 no_bk_7).trans rfl) (by omega) ?_
                refine e_Ok.add (z := w 344 y1 + 40000) rfl (Int.add_comm _ _) (by omega) ?_
                refine e_Ok.ps1 (x := (0, z16)) (q := 197) 1 rfl ?_
                refine e_Ok.ast rfl (el_o rfl) rfl rfl (by omega) ?_
                generalize hw24 : e_up v1 329 (w 344 y1 + 40000) z16 = w24
                have hH26 : e_Has hTy w24 := e_Has.ups j5 hw24 rfl
                have hT27 : e_Has mTy w24 := e_Has.upr j4 hw24 rfl (by omega)
                refine e_Ok.ps1 (x := (0, 5)) (q := 199) 1 rfl ?_
                refine e_Ok.if1 rfl (fun h28 => ?_) (fun h28 => ?_)
                · replace h28 : (5 : Int) = 0 := h28
                  exfalso; omega
                · replace h28 : (5 : Int) ≠ 0 := (show ¬ ((5 : Int) = 0) from h28)
                  refine e_Ok.ps2 (x := (0, 5)) (y := (1, 275)) (q := 204) 2 rfl ?_
                  refine e_Ok.putf rfl (el_o rfl) rfl (ef_o rfl) ?_
                  generalize hw29 : e_up w24 275 88 5 = w29
                  have hH31 : e_Has hTy w29 := e_Has.upr hH26 hw29 rfl (by omega)
                  have hT32 : e_Has mTy w29 := e_Has.ups hT27 hw29 (mt_o rfl)
                  refine e_Ok.ps2 (x := (1, 275)) (y := (1, 275)) (q := 209) 2 rfl ?_
                  refine e_Ok.getr (z := 342) rfl (el_o rfl) rfl (ef_o rfl) (e_uq hw29 (Or.inr (by decide)) (e_uq hw24 (Or.inl (by decide)) ((j3 275 91 no_bk_8).trans (e_Has.eq hT (mt_o rfl))))) ⟨by decide, by decide⟩ ?_
                  refine e_Ok.ps1 (x := (0, y1)) (q := 213) 1 rfl ?_
                  refine e_Ok.ald (z := w 342 y1) rfl (el_o rfl) rfl (by omega) (e_uq hw29 (Or.inl (by decide)) (e_uq hw24 (Or.inl (by decide)) ((j3 342 y1 no_bk_2).trans rfl))) (by omega) ?_
                  refine e_Ok.putf rfl (el_o rfl) rfl (ef_o rfl) ?_
                  generalize hw33 : e_up w29 275 89 (w 342 y1) = w33
                  have hH35 : e_Has hTy w33 := e_Has.upr hH31 hw33 rfl (by omega)
                  have hT36 : e_Has mTy w33 := e_Has.ups hT32 hw33 (mt_o rfl)
                  refine e_Ok.inc (z := y1 + 1) rfl rfl (by first | with_reducible rfl | omega) (by omega) ?_
                  show e_Ok 20 elay ecode eI (d + 1) 356 (220, [(1, (0, y1 + 1)), (3, (0, 5)), (4, (0, z16)), (2, (0, w 341 y1)), (0, (1, 275))], [], w33) _
                  refine e_Ok.ps0 (q := 2) 1 rfl ?_
                  refine e_Ok.sub eAlk (e_sub_of rfl ?_) (ih2 (y1 + 1) w33 ⟨(show e_fr mRsv w w33 from e_fr.up (show e_fr mRsv w w29 from e_fr.up (show e_fr mRsv w w24 from e_fr.up j3 hw24 (by first | exact Or.inl ⟨rfl, (by omega)⟩ | (unfold mRsv; omega))) hw29 (by first | exact Or.inr (Or.inr (Or.inr ⟨rfl, Or.inl rfl⟩)) | (unfold mRsv; omega))) hw33 (by first | exact Or.inr (Or.inr (Or.inr ⟨rfl, Or.inr rfl⟩)) | (unfold mRsv; omega))), hT36, hH35, by omega, (Hid.mk (fun z => absurd (Eq.trans (Eq.symm (show w33 275 88 = 5 from (e_uq hw33 (Or.inr (by first | decide | omega)) (e_ue hw29)))) z) (by decide)))⟩ (by omega))
                  exact ⟨rfl, rfl, trivial⟩
            · replace h12 : (w 341 y1 : Int) = 4 := Classical.not_not.mp (show ¬ ((w 341 y1 : Int) ≠ 4) from h12)
              refine e_Ok.run (t' := (199, [(3, (0, 6)), (2, (0, w 341 y1)), (0, (1, 275)), (1, (0, y1))], [(0, 6)], v1)) 4 rfl ?_
              refine e_Ok.if1 rfl (fun h37 => ?_) (fun h37 => ?_)
              · replace h37 : (6 : Int) = 0 := h37
                exfalso; omega
              · replace h37 : (6 : Int) ≠ 0 := (show ¬ ((6 : Int) = 0) from h37)
                refine e_Ok.ps2 (x := (0, 6)) (y := (1, 275)) (q := 204) 2 rfl ?_
                refine e_Ok.putf rfl (el_o rfl) rfl (ef_o rfl) ?_
                generalize hw38 : e_up v1 275 88 6 = w38
                have hH41 : e_Has hTy w38 := e_Has.upr j5 hw38 rfl (by omega)
                have hT42 : e_Has mTy w38 := e_Has.ups j4 hw38 rfl
                refine e_Ok.ps2 (x := (1, 275)) (y := (1, 275)) (q := 209) 2 rfl ?_
                refine e_Ok.getr (z := 342) rfl (el_o rfl) rfl (ef_o rfl) (e_uq hw38 (Or.inr (by decide)) ((j3 275 91 no_bk_8).trans (e_Has.eq hT (mt_o rfl)))) ⟨by decide, by decide⟩ ?_
                refine e_Ok.ps1 (x := (0, y1)) (q := 213) 1 rfl ?_
                refine e_Ok.ald (z := w 342 y1) rfl (el_o rfl) rfl (by omega) (e_uq hw38 (Or.inl (by decide)) ((j3 342 y1 no_bk_2).trans rfl)) (by omega) ?_
                refine e_Ok.putf rfl (el_o rfl) rfl (ef_o rfl) ?_
                generalize hw43 : e_up w38 275 89 (w 342 y1) = w43
                have hH45 : e_Has hTy w43 := e_Has.upr hH41 hw43 rfl (by omega)
                have hT46 : e_Has mTy w43 := e_Has.ups hT42 hw43 (mt_o rfl)
                refine e_Ok.inc (z := y1 + 1) rfl rfl (by first | with_reducible rfl | omega) (by omega) ?_
                show e_Ok 20 elay ecode eI (d + 1) 356 (220, [(1, (0, y1 + 1)), (3, (0, 6)), (2, (0, w 341 y1)), (0, (1, 275))], [], w43) _
                refine e_Ok.ps0 (q := 2) 1 rfl ?_
                refine e_Ok.sub eAlk (e_sub_of rfl ?_) (ih2 (y1 + 1) w43 ⟨(show e_fr mRsv w w43 from e_fr.up (show e_fr mRsv w w38 from e_fr.up j3 hw38 (by first | exact Or.inr (Or.inr (Or.inr ⟨rfl, Or.inl rfl⟩)) | (unfold mRsv; omega))) hw43 (by first | exact Or.inr (Or.inr (Or.inr ⟨rfl, Or.inr rfl⟩)) | (unfold mRsv; omega))), hT46, hH45, by omega, (Hid.mk (fun z => absurd (Eq.trans (Eq.symm (show w43 275 88 = 6 from (e_uq hw43 (Or.inr (by first | decide | omega)) (e_ue hw38)))) z) (by decide)))⟩ (by omega))
                exact ⟨rfl, rfl, trivial⟩
          · replace h11 : (w 341 y1 : Int) < 2 := Int.not_le.mp (show ¬ ((w 341 y1 : Int) ≥ 2) from h11)
            have hk4 := hk3.out (by omega)
            refine e_Ok.ps4 (x := (0, y1)) (y := (0, y1)) (z := (0, 0)) (u := (1, 275)) (q := 35) 4 rfl ?_
            refine e_Ok.callV rfl (e_dq hd rfl) rfl rfl rfl rfl (c_355 (e_dq hd rfl) j4 j5 (N := N) (mm := mm) (f := 0) (n := y1) (q := y1) hN hmm (by omega) (by omega) (by omega) hRv hBv (by rw [h41]; omega)) (fun r47 w48 h49 => ?_)
            obtain ⟨z50, rfl, rfl, q51, q51b, q51c⟩ := h49
            rw [cntK_eq h41] at q51c
            replace q51c := (show Hid _ from q51c)
            show e_Ok 20 elay ecode eI (d + 1) 356 (38, [(3, (0, 0)), (2, (0, w 341 y1)), (0, (1, 275)), (1, (0, y1))], [(0, z50)], v1) _
            refine e_Ok.if1 rfl (fun h52 => ?_) (fun h52 => ?_)
            · replace h52 : (z50 : Int) ≥ 0 := h52
              refine e_Ok.run (t' := (87, [(3, (0, 4)), (2, (0, w 341 y1)), (0, (1, 275)), (1, (0, y1))], [(0, 4)], v1)) 4 rfl ?_
              refine e_Ok.if1 rfl (fun h53 => ?_) (fun h53 => ?_)
              · replace h53 : (4 : Int) ≠ 0 := h53
                refine e_Ok.ps1 (x := (0, 4)) (q := 108) 1 rfl ?_
                refine e_Ok.if1 rfl (fun h54 => ?_) (fun h54 => ?_)
                · replace h54 : (4 : Int) ≠ 0 := h54
                  refine e_Ok.ps1 (x := (0, 4)) (q := 199) 1 rfl ?_
                  refine e_Ok.if1 rfl (fun h55 => ?_) (fun h55 => ?_)
                  · replace h55 : (4 : Int) = 0 := h55
                    exfalso; omega
                  · replace h55 : (4 : Int) ≠ 0 := (show ¬ ((4 : Int) = 0) from h55)
                    refine e_Ok.ps2 (x := (0, 4)) (y := (1, 275)) (q := 204) 2 rfl ?_
                    refine e_Ok.putf rfl (el_o rfl) rfl (ef_o rfl) ?_
                    generalize hw56 : e_up v1 275 88 4 = w56
                    have hH58 : e_Has hTy w56 := e_Has.upr j5 hw56 rfl (by omega)
                    have hT59 : e_Has mTy w56 := e_Has.ups j4 hw56 rfl
                    refine e_Ok.ps2 (x := (1, 275)) (y := (1, 275)) (q := 209) 2 rfl ?_
                    refine e_Ok.getr (z := 342) rfl (el_o rfl) rfl (ef_o rfl) (e_uq hw56 (Or.inr (by decide)) ((j3 275 91 no_bk_8).trans (e_Has.eq hT (mt_o rfl)))) ⟨by decide, by decide⟩ ?_
                    refine e_Ok.ps1 (x := (0, y1)) (q := 213) 1 rfl ?_
                    refine e_Ok.ald (z := w 342 y1) rfl (el_o rfl) rfl (by omega) (e_uq hw56 (Or.inl (by decide)) ((j3 342 y1 no_bk_2).trans rfl)) (by omega) ?_
                    refine e_Ok.putf rfl (el_o rfl) rfl (ef_o rfl) ?_
                    generalize hw60 : e_up w56 275 89 (w 342 y1) = w60
                    have hH62 : e_Has hTy w60 := e_Has.upr hH58 hw60 rfl (by omega)
                    have hT63 : e_Has mTy w60 := e_Has.ups hT59 hw60 (mt_o rfl)
                    refine e_Ok.inc (z := y1 + 1) rfl rfl (by first | with_reducible rfl | omega) (by omega) ?_
                    show e_Ok 20 elay ecode eI (d + 1) 356 (220, [(1, (0, y1 + 1)), (3, (0, 4)), (2, (0, w 341 y1)), (0, (1, 275))], [], w60) _
                    refine e_Ok.ps0 (q := 2) 1 rfl ?_
                    refine e_Ok.sub eAlk (e_sub_of rfl ?_) (ih2 (y1 + 1) w60 ⟨(show e_fr mRsv w w60 from e_fr.up (show e_fr mRsv w w56 from e_fr.up j3 hw56 (by first | exact Or.inr (Or.inr (Or.inr ⟨rfl, Or.inl rfl⟩)) | (unfold mRsv; omega))) hw60 (by first | exact Or.inr (Or.inr (Or.inr ⟨rfl, Or.inr rfl⟩)) | (unfold mRsv; omega))), hT63, hH62, by omega, (Hid.mk (fun z => absurd (Eq.trans (Eq.symm (show w60 275 88 = 4 from (e_uq hw60 (Or.inr (by first | decide | omega)) (e_ue hw56)))) z) (by decide)))⟩ (by omega))
                    exact ⟨rfl, rfl, trivial⟩
                · replace h54 : (4 : Int) = 0 := Classical.not_not.mp (show ¬ ((4 : Int) ≠ 0) from h54)
                  exfalso; omega
              · replace h53 : (4 : Int) = 0 := Classical.not_not.mp (show ¬ ((4 : Int) ≠ 0) from h53)
                exfalso; omega
            · replace h52 : (z50 : Int) < 0 := Int.not_le.mp (show ¬ ((z50 : Int) ≥ 0) from h52)
              refine e_Ok.ps4 (x := (0, y1)) (y := (0, y1)) (z := (0, 1)) (u := (1, 275)) (q := 45) 4 rfl ?_
              refine e_Ok.callV rfl (e_dq hd rfl) rfl rfl rfl rfl (c_355 (e_dq hd rfl) j4 j5 (N := N) (mm := mm) (f := 1) (n := y1) (q := y1) hN hmm (by omega) (by omega) (by omega) hRv hBv (by rw [h41]; omega)) (fun r64 w65 h66 => ?_)
              obtain ⟨z67, rfl, rfl, q68, q68b, q68c⟩ := h66
              rw [cntK_eq h41] at q68c
              replace q68c := (show Hid _ from q68c)
              show e_Ok 20 elay ecode eI (d + 1) 356 (48, [(3, (0, 0)), (2, (0, w 341 y1)), (0, (1, 275)), (1, (0, y1))], [(0, z67)], v1) _
              refine e_Ok.if1 rfl (fun h69 => ?_) (fun h69 => ?_)
              · replace h69 : (z67 : Int) < 0 := h69
                refine e_Ok.ps1 (x := (0, w 341 y1)) (q := 56) 1 rfl ?_
                refine e_Ok.if1 rfl (fun h70 => ?_) (fun h70 => ?_)
                · replace h70 : (w 341 y1 : Int) ≠ 0 := h70
                  refine e_Ok.ps1 (x := (1, 275)) (q := 69) 1 rfl ?_
                  refine e_Ok.getr (z := 338) rfl (el_o rfl) rfl (ef_o rfl) ((j3 275 75 no_bk_9).trans (e_Has.eq hT (mt_o rfl))) ⟨by decide, by decide⟩ ?_
                  refine e_Ok.ps1 (x := (0, 4)) (q := 73) 1 rfl ?_
                  have h71 := (e_Has.get j4 (c := 338) (k := 4) (lo := 0) (hi := 32) rfl (by decide))
                  refine e_Ok.ald (z := v1 338 4) rfl (el_o rfl) rfl (by omega) rfl (e_bq h71 (by decide) (by decide)) ?_
                  refine e_Ok.ps1 (x := (0, 32)) (q := 76) 1 rfl ?_
                  refine e_Ok.if2 rfl (fun h72 => ?_) (fun h72 => ?_)
                  · replace h72 : (v1 338 4 : Int) ≠ 32 := h72
                    refine e_Ok.ps1 (x := (0, 0)) (q := 87) 3 rfl ?_
                    refine e_Ok.if1 rfl (fun h73 => ?_) (fun h73 => ?_)
                    · replace h73 : (0 : Int) ≠ 0 := h73
                      exfalso; omega
                    · replace h73 : (0 : Int) = 0 := Classical.not_not.mp (show ¬ ((0 : Int) ≠ 0) from h73)
                      refine e_Ok.ps1 (x := (0, w 341 y1)) (q := 91) 1 rfl ?_
                      refine e_Ok.if1 rfl (fun h74 => ?_) (fun h74 => ?_)
                      · replace h74 : (w 341 y1 : Int) ≠ 0 := h74
                        refine e_Ok.ps1 (x := (0, 0)) (q := 108) 1 rfl ?_
                        refine e_Ok.if1 rfl (fun h75 => ?_) (fun h75 => ?_)
                        · replace h75 : (0 : Int) ≠ 0 := h75
                          exfalso; omega
                        · replace h75 : (0 : Int) = 0 := Classical.not_not.mp (show ¬ ((0 : Int) ≠ 0) from h75)
                          refine e_Ok.ps1 (x := (1, 275)) (q := 112) 1 rfl ?_
                          refine e_Ok.getr (z := 337) rfl (el_o rfl) rfl (ef_o rfl) ((j3 275 74 no_bk_10).trans (e_Has.eq hT (mt_o rfl))) ⟨by decide, by decide⟩ ?_
                          refine e_Ok.ps2 (x := (1, 275)) (y := (0, 128)) (q := 119) 2 rfl ?_
                          refine e_Ok.getr (z := 338) rfl (el_o rfl) rfl (ef_o rfl) ((j3 275 75 no_bk_9).trans (e_Has.eq hT (mt_o rfl))) ⟨by decide, by decide⟩ ?_
                          refine e_Ok.ps1 (x := (0, 4)) (q := 123) 1 rfl ?_
                          refine e_Ok.ald (z := v1 338 4) rfl (el_o rfl) rfl (by omega) rfl (by omega) ?_
                          refine e_Ok.add (z := v1 338 4 + 128) rfl (Int.add_comm _ _) (by omega) ?_
                          refine e_Ok.ps1 (x := (1, 275)) (q := 126) 1 rfl ?_
                          refine e_Ok.getr (z := 344) rfl (el_o rfl) rfl (ef_o rfl) ((j3 275 93 no_bk_6).trans (e_Has.eq hT (mt_o rfl))) ⟨by decide, by decide⟩ ?_
                          refine e_Ok.ps1 (x := (0, y1)) (q := 130) 1 rfl ?_
                          refine e_Ok.ald (z := w 344 y1) rfl (el_o rfl) rfl (by omega) ((j3 344 y1 no_bk_7).trans rfl) (by omega) ?_
                          refine e_Ok.ast rfl (el_o rfl) rfl rfl (by omega) ?_
                          generalize hw76 : e_up v1 337 (v1 338 4 + 128) (w 344 y1) = w76
                          have hH78 : e_Has hTy w76 := e_Has.ups j5 hw76 rfl
                          have hT79 : e_Has mTy w76 := e_Has.upr j4 hw76 rfl (by omega)
                          refine e_Ok.ps1 (x := (1, 275)) (q := 133) 1 rfl ?_
                          refine e_Ok.getr (z := 338) rfl (el_o rfl) rfl (ef_o rfl) (e_uq hw76 (Or.inl (by decide)) ((j3 275 75 no_bk_9).trans (e_Has.eq hT (mt_o rfl)))) ⟨by decide, by decide⟩ ?_
                          refine e_Ok.ps3 (x := (0, 4)) (y := (1, 338)) (z := (0, 4)) (q := 138) 2 rfl ?_
                          refine e_Ok.ald (z := v1 338 4) rfl (el_o rfl) rfl (by omega) (e_uq hw76 (Or.inl (by decide)) rfl) (by omega) ?_
                          refine e_Ok.ps1 (x := (0, 1)) (q := 140) 1 rfl ?_
                          refine e_Ok.add (z := v1 338 4 + 1) rfl rfl (by omega) ?_
                          refine e_Ok.ast rfl (el_o rfl) rfl rfl (by omega) ?_
                          generalize hw80 : e_up w76 338 4 (v1 338 4 + 1) = w80
                          have hH82 : e_Has hTy w80 := e_Has.ups hH78 hw80 rfl
                          have hT83 : e_Has mTy w80 := e_Has.upr hT79 hw80 (mt_o rfl) (by omega)
                          refine e_Ok.ps1 (x := (0, 0)) (q := 199) 2 rfl ?_
                          refine e_Ok.if1 rfl (fun h84 => ?_) (fun h84 => ?_)
                          · replace h84 : (0 : Int) = 0 := h84
                            refine e_Ok.inc (z := y1 + 1) rfl rfl (by first | with_reducible rfl | omega) (by omega) ?_
                            show e_Ok 20 elay ecode eI (d + 1) 356 (220, [(1, (0, y1 + 1)), (3, (0, 0)), (2, (0, w 341 y1)), (0, (1, 275))], [], w80) _
                            refine e_Ok.ps0 (q := 2) 1 rfl ?_
                            refine e_Ok.sub eAlk (e_sub_of rfl ?_) (ih2 (y1 + 1) w80 ⟨(show e_fr mRsv w w80 from e_fr.up (show e_fr mRsv w w76 from e_fr.up j3 hw76 (by first | exact Or.inr (Or.inl ⟨rfl, (by omega)⟩) | (unfold mRsv; omega))) hw80 (by first | exact Or.inr (Or.inr (Or.inl ⟨Or.inl rfl, rfl⟩)) | (unfold mRsv; omega))), hT83, hH82, by omega, (Hid.mk (fun z => RS.rou hRS (by omega) (by omega) (show w80 338 4 = v1 338 4 + 1 from (e_ue hw80)) (show w80 337 (v1 338 4 + 128) = w 344 y1 from (e_uq hw80 (Or.inl (by omega)) (e_ue hw76))) (by omega) (fun c k y => Eq.trans (show w80 c k = w76 c k from by rw [← hw80]; exact e_up_ne _ _ (by omega)) (e_un hw76 (by omega)))))⟩ (by omega))
                            exact ⟨rfl, rfl, trivial⟩
                          · replace h84 : (0 : Int) ≠ 0 := (show ¬ ((0 : Int) = 0) from h84)
                            exfalso; omega
                      · replace h74 : (w 341 y1 : Int) = 0 := Classical.not_not.mp (show ¬ ((w 341 y1 : Int) ≠ 0) from h74)
                        exfalso; omega
                  · replace h72 : (v1 338 4 : Int) = 32 := Classical.not_not.mp (show ¬ ((v1 338 4 : Int) ≠ 32) from h72)
                    refine e_Ok.run (t' := (87, [(3, (0, 7)), (2, (0, w 341 y1)), (0, (1, 275)), (1, (0, y1))], [(0, 7)], v1)) 4 rfl ?_
                    refine e_Ok.if1 rfl (fun h85 => ?_) (fun h85 => ?_)
                    · replace h85 : (7 : Int) ≠ 0 := h85
                      refine e_Ok.ps1 (x := (0, 7)) (q := 108) 1 rfl ?_
                      refine e_Ok.if1 rfl (fun h86 => ?_) (fun h86 => ?_)
                      · replace h86 : (7 : Int) ≠ 0 := h86
                        refine e_Ok.ps1 (x := (0, 7)) (q := 199) 1 rfl ?_
                        refine e_Ok.if1 rfl (fun h87 => ?_) (fun h87 => ?_)
                        · replace h87 : (7 : Int) = 0 := h87
                          exfalso; omega
                        · replace h87 : (7 : Int) ≠ 0 := (show ¬ ((7 : Int) = 0) from h87)
                          refine e_Ok.ps2 (x := (0, 7)) (y := (1, 275)) (q := 204) 2 rfl ?_
                          refine e_Ok.putf rfl (el_o rfl) rfl (ef_o rfl) ?_
                          generalize hw88 : e_up v1 275 88 7 = w88
                          have hH90 : e_Has hTy w88 := e_Has.upr j5 hw88 rfl (by omega)
                          have hT91 : e_Has mTy w88 := e_Has.ups j4 hw88 rfl
                          refine e_Ok.ps2 (x := (1, 275)) (y := (1, 275)) (q := 209) 2 rfl ?_
                          refine e_Ok.getr (z := 342) rfl (el_o rfl) rfl (ef_o rfl) (e_uq hw88 (Or.inr (by decide)) ((j3 275 91 no_bk_8).trans (e_Has.eq hT (mt_o rfl)))) ⟨by decide, by decide⟩ ?_
                          refine e_Ok.ps1 (x := (0, y1)) (q := 213) 1 rfl ?_
                          refine e_Ok.ald (z := w 342 y1) rfl (el_o rfl) rfl (by omega) (e_uq hw88 (Or.inl (by decide)) ((j3 342 y1 no_bk_2).trans rfl)) (by omega) ?_
                          refine e_Ok.putf rfl (el_o rfl) rfl (ef_o rfl) ?_
                          generalize hw92 : e_up w88 275 89 (w 342 y1) = w92
                          have hH94 : e_Has hTy w92 := e_Has.upr hH90 hw92 rfl (by omega)
                          have hT95 : e_Has mTy w92 := e_Has.ups hT91 hw92 (mt_o rfl)
                          refine e_Ok.inc (z := y1 + 1) rfl rfl (by first | with_reducible rfl | omega) (by omega) ?_
                          show e_Ok 20 elay ecode eI (d + 1) 356 (220, [(1, (0, y1 + 1)), (3, (0, 7)), (2, (0, w 341 y1)), (0, (1, 275))], [], w92) _
                          refine e_Ok.ps0 (q := 2) 1 rfl ?_
                          refine e_Ok.sub eAlk (e_sub_of rfl ?_) (ih2 (y1 + 1) w92 ⟨(show e_fr mRsv w w92 from e_fr.up (show e_fr mRsv w w88 from e_fr.up j3 hw88 (by first | exact Or.inr (Or.inr (Or.inr ⟨rfl, Or.inl rfl⟩)) | (unfold mRsv; omega))) hw92 (by first | exact Or.inr (Or.inr (Or.inr ⟨rfl, Or.inr rfl⟩)) | (unfold mRsv; omega))), hT95, hH94, by omega, (Hid.mk (fun z => absurd (Eq.trans (Eq.symm (show w92 275 88 = 7 from (e_uq hw92 (Or.inr (by first | decide | omega)) (e_ue hw88)))) z) (by decide)))⟩ (by omega))
                          exact ⟨rfl, rfl, trivial⟩
                      · replace h86 : (7 : Int) = 0 := Classical.not_not.mp (show ¬ ((7 : Int) ≠ 0) from h86)
                        exfalso; omega
                    · replace h85 : (7 : Int) = 0 := Classical.not_not.mp (show ¬ ((7 : Int) ≠ 0) from h85)
                      exfalso; omega
                · replace h70 : (w 341 y1 : Int) = 0 := Classical.not_not.mp (show ¬ ((w 341 y1 : Int) ≠ 0) from h70)
                  refine e_Ok.ps1 (x := (1, 275)) (q := 60) 1 rfl ?_
                  refine e_Ok.getr (z := 339) rfl (el_o rfl) rfl (ef_o rfl) ((j3 275 76 no_bk_11).trans (e_Has.eq hT (mt_o rfl))) ⟨by decide, by decide⟩ ?_
                  refine e_Ok.ps1 (x := (0, 4)) (q := 64) 1 rfl ?_
                  have h101 := (e_Has.get j4 (c := 339) (k := 4) (lo := 0) (hi := 32) rfl (by decide))
                  refine e_Ok.ald (z := v1 339 4) rfl (el_o rfl) rfl (by omega) rfl (e_bq h101 (by decide) (by decide)) ?_
                  refine e_Ok.ps1 (x := (0, 32)) (q := 76) 2 rfl ?_
                  refine e_Ok.if2 rfl (fun h103 => ?_) (fun h103 => ?_)
                  · replace h103 : (v1 339 4 : Int) ≠ 32 := h103
                    refine e_Ok.ps1 (x := (0, 0)) (q := 87) 3 rfl ?_
                    refine e_Ok.if1 rfl (fun h104 => ?_) (fun h104 => ?_)
                    · replace h104 : (0 : Int) ≠ 0 := h104
                      exfalso; omega
                    · replace h104 : (0 : Int) = 0 := Classical.not_not.mp (show ¬ ((0 : Int) ≠ 0) from h104)
                      refine e_Ok.ps1 (x := (0, w 341 y1)) (q := 91) 1 rfl ?_
                      refine e_Ok.if1 rfl (fun h105 => ?_) (fun h105 => ?_)
                      · replace h105 : (w 341 y1 : Int) ≠ 0 := h105
                        exfalso; omega
                      · replace h105 : (w 341 y1 : Int) = 0 := Classical.not_not.mp (show ¬ ((w 341 y1 : Int) ≠ 0) from h105)
                        refine e_Ok.ps1 (x := (1, 275)) (q := 95) 1 rfl ?_
                        refine e_Ok.getr (z := 339) rfl (el_o rfl) rfl (ef_o rfl) ((j3 275 76 no_bk_11).trans (e_Has.eq hT (mt_o rfl))) ⟨by decide, by decide⟩ ?_
                        refine e_Ok.ps3 (x := (0, 4)) (y := (1, 339)) (z := (0, 4)) (q := 100) 2 rfl ?_
                        refine e_Ok.ald (z := v1 339 4) rfl (el_o rfl) rfl (by omega) rfl (by omega) ?_
                        refine e_Ok.ps1 (x := (0, 1)) (q := 102) 1 rfl ?_
                        refine e_Ok.add (z := v1 339 4 + 1) rfl rfl (by omega) ?_
                        refine e_Ok.ast rfl (el_o rfl) rfl rfl (by omega) ?_
                        generalize hw106 : e_up v1 339 4 (v1 339 4 + 1) = w106
                        have hH108 : e_Has hTy w106 := e_Has.ups j5 hw106 rfl
                        have hT109 : e_Has mTy w106 := e_Has.upr j4 hw106 rfl (by omega)
                        refine e_Ok.ps1 (x := (0, 0)) (q := 199) 2 rfl ?_
                        refine e_Ok.if1 rfl (fun h110 => ?_) (fun h110 => ?_)
                        · replace h110 : (0 : Int) = 0 := h110
                          refine e_Ok.inc (z := y1 + 1) rfl rfl (by first | with_reducible rfl | omega) (by omega) ?_
                          show e_Ok 20 elay ecode eI (d + 1) 356 (220, [(1, (0, y1 + 1)), (3, (0, 0)), (2, (0, w 341 y1)), (0, (1, 275))], [], w106) _
                          refine e_Ok.ps0 (q := 2) 1 rfl ?_
                          refine e_Ok.sub eAlk (e_sub_of rfl ?_) (ih2 (y1 + 1) w106 ⟨(show e_fr mRsv w w106 from e_fr.up j3 hw106 (by first | exact Or.inr (Or.inr (Or.inl ⟨Or.inr rfl, rfl⟩)) | (unfold mRsv; omega))), hT109, hH108, by omega, (Hid.mk (fun z => RS.var hRS (by omega) (by omega) (show w106 339 4 = v1 339 4 + 1 from (e_ue hw106)) (by omega) (fun c k y => by rw [← hw106]; exact e_up_ne _ _ (Or.inl (by omega)))))⟩ (by omega))
                          exact ⟨rfl, rfl, trivial⟩
                        · replace h110 : (0 : Int) ≠ 0 := (show ¬ ((0 : Int) = 0) from h110)
                          exfalso; omega
                  · replace h103 : (v1 339 4 : Int) = 32 := Classical.not_not.mp (show ¬ ((v1 339 4 : Int) ≠ 32) from h103)
                    refine e_Ok.run (t' := (87, [(3, (0, 7)), (2, (0, w 341 y1)), (0, (1, 275)), (1, (0, y1))], [(0, 7)], v1)) 4 rfl ?_
                    refine e_Ok.if1 rfl (fun h111 => ?_) (fun h111 => ?_)
                    · replace h111 : (7 : Int) ≠ 0 := h111
                      refine e_Ok.ps1 (x := (0, 7)) (q := 108) 1 rfl ?_
                      refine e_Ok.if1 rfl (fun h112 => ?_) (fun h112 => ?_)
                      · replace h112 : (7 : Int) ≠ 0 := h112
                        refine e_Ok.ps1 (x := (0, 7)) (q := 199) 1 rfl ?_
                        refine e_Ok.if1 rfl (fun h113 => ?_) (fun h113 => ?_)
                        · replace h113 : (7 : Int) = 0 := h113
                          exfalso; omega
                        · replace h113 : (7 : Int) ≠ 0 := (show ¬ ((7 : Int) = 0) from h113)
                          refine e_Ok.ps2 (x := (0, 7)) (y := (1, 275)) (q := 204) 2 rfl ?_
                          refine e_Ok.putf rfl (el_o rfl) rfl (ef_o rfl) ?_
                          generalize hw114 : e_up v1 275 88 7 = w114
                          have hH116 : e_Has hTy w114 := e_Has.upr j5 hw114 rfl (by omega)
                          have hT117 : e_Has mTy w114 := e_Has.ups j4 hw114 rfl
                          refine e_Ok.ps2 (x := (1, 275)) (y := (1, 275)) (q := 209) 2 rfl ?_
                          refine e_Ok.getr (z := 342) rfl (el_o rfl) rfl (ef_o rfl) (e_uq hw114 (Or.inr (by decide)) ((j3 275 91 no_bk_8).trans (e_Has.eq hT (mt_o rfl)))) ⟨by decide, by decide⟩ ?_
                          refine e_Ok.ps1 (x := (0, y1)) (q := 213) 1 rfl ?_
                          refine e_Ok.ald (z := w 342 y1) rfl (el_o rfl) rfl (by omega) (e_uq hw114 (Or.inl (by decide)) ((j3 342 y1 no_bk_2).trans rfl)) (by omega) ?_
                          refine e_Ok.putf rfl (el_o rfl) rfl (ef_o rfl) ?_
                          generalize hw118 : e_up w114 275 89 (w 342 y1) = w118
                          have hH120 : e_Has hTy w118 := e_Has.upr hH116 hw118 rfl (by omega)
                          have hT121 : e_Has mTy w118 := e_Has.ups hT117 hw118 (mt_o rfl)
                          refine e_Ok.inc (z := y1 + 1) rfl rfl (by first | with_reducible rfl | omega) (by omega) ?_
                          show e_Ok 20 elay ecode eI (d + 1) 356 (220, [(1, (0, y1 + 1)), (3, (0, 7)), (2, (0, w 341 y1)), (0, (1, 275))], [], w118) _
                          refine e_Ok.ps0 (q := 2) 1 rfl ?_
                          refine e_Ok.sub eAlk (e_sub_of rfl ?_) (ih2 (y1 + 1) w118 ⟨(show e_fr mRsv w w118 from e_fr.up (show e_fr mRsv w w114 from e_fr.up j3 hw114 (by first | exact Or.inr (Or.inr (Or.inr ⟨rfl, Or.inl rfl⟩)) | (unfold mRsv; omega))) hw118 (by first | exact Or.inr (Or.inr (Or.inr ⟨rfl, Or.inr rfl⟩)) | (unfold mRsv; omega))), hT121, hH120, by omega, (Hid.mk (fun z => absurd (Eq.trans (Eq.symm (show w118 275 88 = 7 from (e_uq hw118 (Or.inr (by first | decide | omega)) (e_ue hw114)))) z) (by decide)))⟩ (by omega))
                          exact ⟨rfl, rfl, trivial⟩
                      · replace h112 : (7 : Int) = 0 := Classical.not_not.mp (show ¬ ((7 : Int) ≠ 0) from h112)
                        exfalso; omega
                    · replace h111 : (7 : Int) = 0 := Classical.not_not.mp (show ¬ ((7 : Int) ≠ 0) from h111)
                      exfalso; omega
              · replace h69 : (z67 : Int) ≥ 0 := Int.not_lt.mp (show ¬ ((z67 : Int) < 0) from h69)
                refine e_Ok.run (t' := (87, [(3, (0, 4)), (2, (0, w 341 y1)), (0, (1, 275)), (1, (0, y1))], [(0, 4)], v1)) 4 rfl ?_
                refine e_Ok.if1 rfl (fun h122 => ?_) (fun h122 => ?_)
                · replace h122 : (4 : Int) ≠ 0 := h122
                  refine e_Ok.ps1 (x := (0, 4)) (q := 108) 1 rfl ?_
                  refine e_Ok.if1 rfl (fun h123 => ?_) (fun h123 => ?_)
                  · replace h123 : (4 : Int) ≠ 0 := h123
                    refine e_Ok.ps1 (x := (0, 4)) (q := 199) 1 rfl ?_
                    refine e_Ok.if1 rfl (fun h124 => ?_) (fun h124 => ?_)
                    · replace h124 : (4 : Int) = 0 := h124
                      exfalso; omega
                    · replace h124 : (4 : Int) ≠ 0 := (show ¬ ((4 : Int) = 0) from h124)
                      refine e_Ok.ps2 (x := (0, 4)) (y := (1, 275)) (q := 204) 2 rfl ?_
                      refine e_Ok.putf rfl (el_o rfl) rfl (ef_o rfl) ?_
                      generalize hw125 : e_up v1 275 88 4 = w125
                      have hH127 : e_Has hTy w125 := e_Has.upr j5 hw125 rfl (by omega)
                      have hT128 : e_Has mTy w125 := e_Has.ups j4 hw125 rfl
                      refine e_Ok.ps2 (x := (1, 275)) (y := (1, 275)) (q := 209) 2 rfl ?_
                      refine e_Ok.getr (z := 342) rfl (el_o rfl) rfl (ef_o rfl) (e_uq hw125 (Or.inr (by decide)) ((j3 275 91 no_bk_8).trans (e_Has.eq hT (mt_o rfl)))) ⟨by decide, by decide⟩ ?_
                      refine e_Ok.ps1 (x := (0, y1)) (q := 213) 1 rfl ?_
                      refine e_Ok.ald (z := w 342 y1) rfl (el_o rfl) rfl (by omega) (e_uq hw125 (Or.inl (by decide)) ((j3 342 y1 no_bk_2).trans rfl)) (by omega) ?_
                      refine e_Ok.putf rfl (el_o rfl) rfl (ef_o rfl) ?_
                      generalize hw129 : e_up w125 275 89 (w 342 y1) = w129
                      have hH131 : e_Has hTy w129 := e_Has.upr hH127 hw129 rfl (by omega)
                      have hT132 : e_Has mTy w129 := e_Has.ups hT128 hw129 (mt_o rfl)
                      refine e_Ok.inc (z := y1 + 1) rfl rfl (by first | with_reducible rfl | omega) (by omega) ?_
                      show e_Ok 20 elay ecode eI (d + 1) 356 (220, [(1, (0, y1 + 1)), (3, (0, 4)), (2, (0, w 341 y1)), (0, (1, 275))], [], w129) _
                      refine e_Ok.ps0 (q := 2) 1 rfl ?_
                      refine e_Ok.sub eAlk (e_sub_of rfl ?_) (ih2 (y1 + 1) w129 ⟨(show e_fr mRsv w w129 from e_fr.up (show e_fr mRsv w w125 from e_fr.up j3 hw125 (by first | exact Or.inr (Or.inr (Or.inr ⟨rfl, Or.inl rfl⟩)) | (unfold mRsv; omega))) hw129 (by first | exact Or.inr (Or.inr (Or.inr ⟨rfl, Or.inr rfl⟩)) | (unfold mRsv; omega))), hT132, hH131, by omega, (Hid.mk (fun z => absurd (Eq.trans (Eq.symm (show w129 275 88 = 4 from (e_uq hw129 (Or.inr (by first | decide | omega)) (e_ue hw125)))) z) (by decide)))⟩ (by omega))
                      exact ⟨rfl, rfl, trivial⟩
                  · replace h123 : (4 : Int) = 0 := Classical.not_not.mp (show ¬ ((4 : Int) ≠ 0) from h123)
                    exfalso; omega
                · replace h122 : (4 : Int) = 0 := Classical.not_not.mp (show ¬ ((4 : Int) ≠ 0) from h122)
                  exfalso; omega
  refine e_Ok.sub eAlk (e_sub_of rfl ?_) (hL1 (4100 + 1 : Int).toNat 0 w ⟨(e_fr.refl w), hT, hH, by omega, (Hid.mk (fun _ => RS.zero n mm h9 h8))⟩ (by omega))
  exact ⟨rfl, rfl, trivial⟩
end
