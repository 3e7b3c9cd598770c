noncomputable section
theorem c_354 {d : Nat} {w : eW} (hT : e_Has mTy w) (hH : e_Has hTy w) {N m n : Int} (hN : N ≤ 4000) (hm : 0 ≤ m ∧ m ≤ 4099) (hn : 0 ≤ n ∧ n ≤ 4099) (h1 : 0 ≤ w 342 m ∧ 0 ≤ w 343 m ∧ w 342 m + w 343 m ≤ N) (h2 : 0 ≤ w 342 n ∧ 0 ≤ w 343 n ∧ w 342 n + w 343 n ≤ N) : e_Ok 20 elay ecode eI d 354 (0, [(0, (1, 275)), (1, (0, m)), (2, (0, n))], [], w) (fun r w' => ∃ z : Int, r = [(0, z)] ∧ w = w' ∧ 0 ≤ z ∧ z ≤ 1) := by
  refine e_Ok.run (t' := (1, [(0, (1, 275)), (1, (0, m)), (2, (0, n))], [(1, 275)], w)) 1 rfl ?_
  refine e_Ok.getr (z := 343) rfl (el_o rfl) rfl rfl (e_Has.eq hT rfl) (by omega) ?_
  refine e_Ok.run (t' := (5, [(0, (1, 275)), (1, (0, m)), (2, (0, n))], [(0, m), (1, 343)], w)) 1 rfl ?_
  refine e_Ok.ald (z := w 343 m) rfl (el_o rfl) rfl (by omega) rfl (by omega) ?_
  refine e_Ok.run (t' := (7, [(0, (1, 275)), (1, (0, m)), (2, (0, n))], [(1, 275), (0, w 343 m)], w)) 1 rfl ?_
  refine e_Ok.getr (z := 343) rfl (el_o rfl) rfl rfl (e_Has.eq hT rfl) (by omega) ?_
  refine e_Ok.run (t' := (11, [(0, (1, 275)), (1, (0, m)), (2, (0, n))], [(0, n), (1, 343), (0, w 343 m)], w)) 1 rfl ?_
  refine e_Ok.ald (z := w 343 n) rfl (el_o rfl) rfl (by omega) rfl (by omega) ?_
  refine e_Ok.if2 rfl (fun h1 => ?_) (fun h1 => ?_)
  · replace h1 : (w 343 m : Int) ≠ w 343 n := h1
    refine e_Ok.run (t' := (24, [(4, (0, 0)), (3, (0, 0)), (0, (1, 275)), (1, (0, m)), (2, (0, n))], [], w)) 4 rfl ?_
    have hL2 : ∀ (nn : Nat) (y3 : Int) (y4 : Int), ((0 ≤ y3 ∧ y3 ≤ 1)) ∧ ((0 ≤ y4 ∧ y4 ≤ w 343 m)) ∧ (y3 = 1 → w 343 m = w 343 n) → 4000 - y4 < nn → e_Ok 20 elay ecode eI d 354 (24, [(0, (1, 275)), (1, (0, m)), (2, (0, n)), (3, (0, y3)), (4, (0, y4))], [], w) (fun r w' => ∃ z : Int, r = [(0, z)] ∧ w = w' ∧ 0 ≤ z ∧ z ≤ 1) := by
      intro nn
      induction nn with
      | zero => intro y3 y4 hj hm; obtain ⟨j4, j5, j6⟩ := hj; exfalso; omega
      | succ nn ih3 =>
        intro y3 y4 hj hm
        obtain ⟨j4, j5, j6⟩ := hj
        refine e_Ok.run (t' := (27, [(0, (1, 275)), (1, (0, m)), (2, (0, n)), (3, (0, y3)), (4, (0, y4))], [(1, 275), (0, y4)], w)) 2 rfl ?_
        refine e_Ok.getr (z := 343) rfl (el_o rfl) rfl rfl (e_Has.eq hT rfl) (by omega) ?_
        refine e_Ok.run (t' := (31, [(0, (1, 275)), (1, (0, m)), (2, (0, n)), (3, (0, y3)), (4, (0, y4))], [(0, m), (1, 343), (0, y4)], w)) 1 rfl ?_
        refine e_Ok.ald (z := w 343 m) rfl (el_o rfl) rfl (by omega) rfl (by omega) ?_
        refine e_Ok.if2 rfl (fun h7 => ?_) (fun h7 => ?_)
        · replace h7 : (y4 : Int) ≥ w 343 m := h7
          refine e_Ok.run (t' := (83, [(0, (1, 275)), (1, (0, m)), (2, (0, n)), (3, (0, y3)), (4, (0, y4))], [(0, y3)], w)) 1 rfl ?_
          refine e_Ok.retb rfl (by omega) ?_
          exact ⟨_, rfl, rfl, by omega, by omega⟩
        · replace h7 : (y4 : Int) < w 343 m := by have q : ¬ ((y4 : Int) ≥ w 343 m) := h7; omega
          refine e_Ok.run (t' := (36, [(0, (1, 275)), (1, (0, m)), (2, (0, n)), (3, (0, y3)), (4, (0, y4))], [(0, y3)], w)) 1 rfl ?_
          refine e_Ok.if1 rfl (fun h8 => ?_) (fun h8 => ?_)
          · replace h8 : (y3 : Int) = 0 := h8
            refine e_Ok.run (t' := (83, [(0, (1, 275)), (1, (0, m)), (2, (0, n)), (3, (0, y3)), (4, (0, y4))], [(0, y3)], w)) 1 rfl ?_
            refine e_Ok.retb rfl (by omega) ?_
            exact ⟨_, rfl, rfl, by omega, by omega⟩
          · replace h8 : (y3 : Int) ≠ 0 := by have q : ¬ ((y3 : Int) = 0) := h8; omega
            refine e_Ok.run (t' := (40, [(0, (1, 275)), (1, (0, m)), (2, (0, n)), (3, (0, y3)), (4, (0, y4))], [(1, 275)], w)) 1 rfl ?_
            refine e_Ok.getr (z := 281) rfl (el_o rfl) rfl rfl (e_Has.eq hT rfl) (by omega) ?_
            refine e_Ok.run (t' := (44, [(0, (1, 275)), (1, (0, m)), (2, (0, n)), (3, (0, y3)), (4, (0, y4))], [(1, 275), (1, 281)], w)) 1 rfl ?_
            refine e_Ok.getr (z := 342) rfl (el_o rfl) rfl rfl (e_Has.eq hT rfl) (by omega) ?_
            refine e_Ok.run (t' := (48, [(0, (1, 275)), (1, (0, m)), (2, (0, n)), (3, (0, y3)), (4, (0, y4))], [(0, m), (1, 342), (1, 281)], w)) 1 rfl ?_
            refine e_Ok.ald (z := w 342 m) rfl (el_o rfl) rfl (by omega) rfl (by omega) ?_
            refine e_Ok.run (t' := (51, [(0, (1, 275)), (1, (0, m)), (2, (0, n)), (3, (0, y3)), (4, (0, y4))], [(0, y4), (0, w 342 m), (1, 281)], w)) 1 rfl ?_
            refine e_Ok.add (z := w 342 m + y4) rfl (by omega) (by omega) ?_
            have h9 := (e_Has.get hH (c := 281) (k := w 342 m + y4) (lo := (-128)) (hi := 127) rfl (by decide))
            refine e_Ok.ald (z := w 281 (w 342 m + y4)) rfl (el_o rfl) rfl (by omega) rfl (by omega) ?_
            refine e_Ok.run (t' := (54, [(0, (1, 275)), (1, (0, m)), (2, (0, n)), (3, (0, y3)), (4, (0, y4))], [(1, 275), (0, w 281 (w 342 m + y4))], w)) 1 rfl ?_
            refine e_Ok.getr (z := 281) rfl (el_o rfl) rfl rfl (e_Has.eq hT rfl) (by omega) ?_
            refine e_Ok.run (t' := (58, [(0, (1, 275)), (1, (0, m)), (2, (0, n)), (3, (0, y3)), (4, (0, y4))], [(1, 275), (1, 281), (0, w 281 (w 342 m + y4))], w)) 1 rfl ?_
            refine e_Ok.getr (z := 342) rfl (el_o rfl) rfl rfl (e_Has.eq hT rfl) (by omega) ?_
            refine e_Ok.run (t' := (62, [(0, (1, 275)), (1, (0, m)), (2, (0, n)), (3, (0, y3)), (4, (0, y4))], [(0, n), (1, 342), (1, 281), (0, w 281 (w 342 m + y4))], w)) 1 rfl ?_
            refine e_Ok.ald (z := w 342 n) rfl (el_o rfl) rfl (by omega) rfl (by omega) ?_
            refine e_Ok.run (t' := (65, [(0, (1, 275)), (1, (0, m)), (2, (0, n)), (3, (0, y3)), (4, (0, y4))], [(0, y4), (0, w 342 n), (1, 281), (0, w 281 (w 342 m + y4))], w)) 1 rfl ?_
            refine e_Ok.add (z := w 342 n + y4) rfl (by omega) (by omega) ?_
            have h10 := (e_Has.get hH (c := 281) (k := w 342 n + y4) (lo := (-128)) (hi := 127) rfl (by decide))
            refine e_Ok.ald (z := w 281 (w 342 n + y4)) rfl (el_o rfl) rfl (by omega) rfl (by omega) ?_
            refine e_Ok.if2 rfl (fun h11 => ?_) (fun h11 => ?_)
            · replace h11 : (w 281 (w 342 m + y4) : Int) ≠ w 281 (w 342 n + y4) := h11
              refine e_Ok.run (t' := (76, [(3, (0, 0)), (0, (1, 275)), (1, (0, m)), (2, (0, n)), (4, (0, y4))], [], w)) 2 rfl ?_
              refine e_Ok.inc (z := y4 + 1) rfl rfl (by omega) (by omega) ?_
              show e_Ok 20 elay ecode eI d 354 (79, [(4, (0, y4 + 1)), (3, (0, 0)), (0, (1, 275)), (1, (0, m)), (2, (0, n))], [], w) _
              refine e_Ok.run (t' := (24, [(4, (0, y4 + 1)), (3, (0, 0)), (0, (1, 275)), (1, (0, m)), (2, (0, n))], [], w)) 1 rfl ?_
              refine e_Ok.sub eAlk (e_sub_of rfl ?_) (ih3 0 (y4 + 1) ⟨by omega, by omega, (fun z => by omega)⟩ (by omega))
              exact ⟨rfl, rfl, rfl, rfl, rfl, trivial⟩
            · replace h11 : (w 281 (w 342 m + y4) : Int) = w 281 (w 342 n + y4) := by have q : ¬ ((w 281 (w 342 m + y4) : Int) ≠ w 281 (w 342 n + y4)) := h11; omega
              refine e_Ok.run (t' := (76, [(3, (0, 1)), (0, (1, 275)), (1, (0, m)), (2, (0, n)), (4, (0, y4))], [], w)) 3 rfl ?_
              refine e_Ok.inc (z := y4 + 1) rfl rfl (by omega) (by omega) ?_
              show e_Ok 20 elay ecode eI d 354 (79, [(4, (0, y4 + 1)), (3, (0, 1)), (0, (1, 275)), (1, (0, m)), (2, (0, n))], [], w) _
              refine e_Ok.run (t' := (24, [(4, (0, y4 + 1)), (3, (0, 1)), (0, (1, 275)), (1, (0, m)), (2, (0, n))], [], w)) 1 rfl ?_
              refine e_Ok.sub eAlk (e_sub_of rfl ?_) (ih3 1 (y4 + 1) ⟨by omega, by omega, (fun z => by omega)⟩ (by omega))
              exact ⟨rfl, rfl, rfl, rfl, rfl, trivial⟩
    refine e_Ok.sub eAlk (e_sub_of rfl ?_) (hL2 (4001 + 1 : Int).toNat 0 0 ⟨by omega, by omega, (fun z => by omega)⟩ (by omega))
    exact ⟨rfl, rfl, rfl, rfl, rfl, trivial⟩
  · replace h1 : (w 343 m : Int) = w 343 n := by have q : ¬ ((w 343 m : Int) ≠ w 343 n) := h1; omega
    refine e_Ok.run (t' := (24, [(4, (0, 0)), (3, (0, 1)), (0, (1, 275)), (1, (0, m)), (2, (0, n))], [], w)) 5 rfl ?_
    have hL12 : ∀ (nn : Nat) (y3 : Int) (y4 : Int), ((0 ≤ y3 ∧ y3 ≤ 1)) ∧ ((0 ≤ y4 ∧ y4 ≤ w 343 m)) ∧ (y3 = 1 → w 343 m = w 343 n) → 4000 - y4 < nn → e_Ok 20 elay ecode eI d 354 (24, [(0, (1, 275)), (1, (0, m)), (2, (0, n)), (3, (0, y3)), (4, (0, y4))], [], w) (fun r w' => ∃ z : Int, r = [(0, z)] ∧ w = w' ∧ 0 ≤ z ∧ z ≤ 1) := by
      intro nn
      induction nn with
      | zero => intro y3 y4 hj hm; obtain ⟨j14, j15, j16⟩ := hj; exfalso; omega
      | succ nn ih13 =>
        intro y3 y4 hj hm
        obtain ⟨j14, j15, j16⟩ := hj
        refine e_Ok.run (t' := (27, [(0, (1, 275)), (1, (0, m)), (2, (0, n)), (3, (0, y3)), (4, (0, y4))], [(1, 275), (0, y4)], w)) 2 rfl ?_
        refine e_Ok.getr (z := 343) rfl (el_o rfl) rfl rfl (e_Has.eq hT rfl) (by omega) ?_
        refine e_Ok.run (t' := (31, [(0, (1, 275)), (1, (0, m)), (2, (0, n)), (3, (0, y3)), (4, (0, y4))], [(0, m), (1, 343), (0, y4)], w)) 1 rfl ?_
        refine e_Ok.ald (z := w 343 m) rfl (el_o rfl) rfl (by omega) rfl (by omega) ?_
        refine e_Ok.if2 rfl (fun h17 => ?_) (fun h17 => ?_)
        · replace h17 : (y4 : Int) ≥ w 343 m := h17
          refine e_Ok.run (t' := (83, [(0, (1, 275)), (1, (0, m)), (2, (0, n)), (3, (0, y3)), (4, (0, y4))], [(0, y3)], w)) 1 rfl ?_
          refine e_Ok.retb rfl (by omega) ?_
          exact ⟨_, rfl, rfl, by omega, by omega⟩
        · replace h17 : (y4 : Int) < w 343 m := by have q : ¬ ((y4 : Int) ≥ w 343 m) := h17; omega
          refine e_Ok.run (t' := (36, [(0, (1, 275)), (1, (0, m)), (2, (0, n)), (3, (0, y3)), (4, (0, y4))], [(0, y3)], w)) 1 rfl ?_
          refine e_Ok.if1 rfl (fun h18 => ?_) (fun h18 => ?_)
          · replace h18 : (y3 : Int) = 0 := h18
            refine e_Ok.run (t' := (83, [(0, (1, 275)), (1, (0, m)), (2, (0, n)), (3, (0, y3)), (4, (0, y4))], [(0, y3)], w)) 1 rfl ?_
            refine e_Ok.retb rfl (by omega) ?_
            exact ⟨_, rfl, rfl, by omega, by omega⟩
          · replace h18 : (y3 : Int) ≠ 0 := by have q : ¬ ((y3 : Int) = 0) := h18; omega
            refine e_Ok.run (t' := (40, [(0, (1, 275)), (1, (0, m)), (2, (0, n)), (3, (0, y3)), (4, (0, y4))], [(1, 275)], w)) 1 rfl ?_
            refine e_Ok.getr (z := 281) rfl (el_o rfl) rfl rfl (e_Has.eq hT rfl) (by omega) ?_
            refine e_Ok.run (t' := (44, [(0, (1, 275)), (1, (0, m)), (2, (0, n)), (3, (0, y3)), (4, (0, y4))], [(1, 275), (1, 281)], w)) 1 rfl ?_
            refine e_Ok.getr (z := 342) rfl (el_o rfl) rfl rfl (e_Has.eq hT rfl) (by omega) ?_
            refine e_Ok.run (t' := (48, [(0, (1, 275)), (1, (0, m)), (2, (0, n)), (3, (0, y3)), (4, (0, y4))], [(0, m), (1, 342), (1, 281)], w)) 1 rfl ?_
            refine e_Ok.ald (z := w 342 m) rfl (el_o rfl) rfl (by omega) rfl (by omega) ?_
            refine e_Ok.run (t' := (51, [(0, (1, 275)), (1, (0, m)), (2, (0, n)), (3, (0, y3)), (4, (0, y4))], [(0, y4), (0, w 342 m), (1, 281)], w)) 1 rfl ?_
            refine e_Ok.add (z := w 342 m + y4) rfl (by omega) (by omega) ?_
            have h19 := (e_Has.get hH (c := 281) (k := w 342 m + y4) (lo := (-128)) (hi := 127) rfl (by decide))
            refine e_Ok.ald (z := w 281 (w 342 m + y4)) rfl (el_o rfl) rfl (by omega) rfl (by omega) ?_
            refine e_Ok.run (t' := (54, [(0, (1, 275)), (1, (0, m)), (2, (0, n)), (3, (0, y3)), (4, (0, y4))], [(1, 275), (0, w 281 (w 342 m + y4))], w)) 1 rfl ?_
            refine e_Ok.getr (z := 281) rfl (el_o rfl) rfl rfl (e_Has.eq hT rfl) (by omega) ?_
            refine e_Ok.run (t' := (58, [(0, (1, 275)), (1, (0, m)), (2, (0, n)), (3, (0, y3)), (4, (0, y4))], [(1, 275), (1, 281), (0, w 281 (w 342 m + y4))], w)) 1 rfl ?_
            refine e_Ok.getr (z := 342) rfl (el_o rfl) rfl rfl (e_Has.eq hT rfl) (by omega) ?_
            refine e_Ok.run (t' := (62, [(0, (1, 275)), (1, (0, m)), (2, (0, n)), (3, (0, y3)), (4, (0, y4))], [(0, n), (1, 342), (1, 281), (0, w 281 (w 342 m + y4))], w)) 1 rfl ?_
            refine e_Ok.ald (z := w 342 n) rfl (el_o rfl) rfl (by omega) rfl (by omega) ?_
            refine e_Ok.run (t' := (65, [(0, (1, 275)), (1, (0, m)), (2, (0, n)), (3, (0, y3)), (4, (0, y4))], [(0, y4), (0, w 342 n), (1, 281), (0, w 281 (w 342 m + y4))], w)) 1 rfl ?_
            refine e_Ok.add (z := w 342 n + y4) rfl (by omega) (by omega) ?_
            have h20 := (e_Has.get hH (c := 281) (k := w 342 n + y4) (lo := (-128)) (hi := 127) rfl (by decide))
            refine e_Ok.ald (z := w 281 (w 342 n + y4)) rfl (el_o rfl) rfl (by omega) rfl (by omega) ?_
            refine e_Ok.if2 rfl (fun h21 => ?_) (fun h21 => ?_)
            · replace h21 : (w 281 (w 342 m + y4) : Int) ≠ w 281 (w 342 n + y4) := h21
              refine e_Ok.run (t' := (76, [(3, (0, 0)), (0, (1, 275)), (1, (0, m)), (2, (0, n)), (4, (0, y4))], [], w)) 2 rfl ?_
              refine e_Ok.inc (z := y4 + 1) rfl rfl (by omega) (by omega) ?_
              show e_Ok 20 elay ecode eI d 354 (79, [(4, (0, y4 + 1)), (3, (0, 0)), (0, (1, 275)), (1, (0, m)), (2, (0, n))], [], w) _
              refine e_Ok.run (t' := (24, [(4, (0, y4 + 1)), (3, (0, 0)), (0, (1, 275)), (1, (0, m)), (2, (0, n))], [], w)) 1 rfl ?_
              refine e_Ok.sub eAlk (e_sub_of rfl ?_) (ih13 0 (y4 + 1) ⟨by omega, by omega, (fun z => by omega)⟩ (by omega))
              exact ⟨rfl, rfl, rfl, rfl, rfl, trivial⟩
            · replace h21 : (w 281 (w 342 m + y4) : Int) = w 281 (w 342 n + y4) := by have q : ¬ ((w 281 (w 342 m + y4) : Int) ≠ w 281 (w 342 n + y4)) := h21; omega
              refine e_Ok.run (t' := (76, [(3, (0, 1)), (0, (1, 275)), (1, (0, m)), (2, (0, n)), (4, (0, y4))], [], w)) 3 rfl ?_
              refine e_Ok.inc (z := y4 + 1) rfl rfl (by omega) (by omega) ?_
              show e_Ok 20 elay ecode eI d 354 (79, [(4, (0, y4 + 1)), (3, (0, 1)), (0, (1, 275)), (1, (0, m)), (2, (0, n))], [], w) _
              refine e_Ok.run (t' := (24, [(4, (0, y4 + 1)), (3, (0, 1)), (0, (1, 275)), (1, (0, m)), (2, (0, n))], [], w)) 1 rfl ?_
              refine e_Ok.sub eAlk (e_sub_of rfl ?_) (ih13 1 (y4 + 1) ⟨by omega, by omega, (fun z => by omega)⟩ (by omega))
              exact ⟨rfl, rfl, rfl, rfl, rfl, trivial⟩
    refine e_Ok.sub eAlk (e_sub_of rfl ?_) (hL12 (4001 + 1 : Int).toNat 1 0 ⟨by omega, by omega, (fun z => by omega)⟩ (by omega))
    exact ⟨rfl, rfl, rfl, rfl, rfl, trivial⟩
theorem c_355 {d : Nat} (hd : 21 ≤ d) {w : eW} (hT : e_Has mTy w) (hH : e_Has hTy w) {N mm f n q : Int} (hN : N ≤ 4000) (hmm : 0 ≤ mm ∧ mm ≤ 4099) (hf : 0 ≤ f ∧ f ≤ 1) (hn : 0 ≤ n ∧ n < mm) (hq : 0 ≤ q ∧ q ≤ mm) (hR : ∀ m, 0 ≤ m → m < mm → 0 ≤ w 341 m ∧ w 341 m ≤ 4) (hB : ∀ m, 0 ≤ m → m < mm → w 341 m ≠ 4 → 0 ≤ w 342 m ∧ 0 ≤ w 343 m ∧ w 342 m + w 343 m ≤ N) (h4 : w 341 n ≠ 4) : e_Ok 20 elay ecode eI d 355 (0, [(0, (1, 275)), (1, (0, f)), (2, (0, n)), (3, (0, q))], [], w) (fun r w' => ∃ z : Int, r = [(0, z)] ∧ w = w' ∧ -1 ≤ z ∧ z ≤ 4099 ∧ (0 ≤ z → z < cntK w f q)) := by
  obtain ⟨d, rfl⟩ : ∃ e, d = e + 1 := ⟨d - 1, by omega⟩
  refine e_Ok.run (t' := (6, [(5, (0, 0)), (4, (0, 0)), (0, (1, 275)), (1, (0, f)), (2, (0, n)), (3, (0, q))], [], w)) 4 rfl ?_
  have hL1 : ∀ (nn : Nat) (y4 : Int) (y5 : Int), (y4 = cntK w f y5) ∧ ((0 ≤ y5 ∧ y5 ≤ q ∧ 0 ≤ y4 ∧ y4 ≤ y5)) → q - y5 < nn → e_Ok 20 elay ecode eI (d + 1) 355 (6, [(0, (1, 275)), (1, (0, f)), (2, (0, n)), (3, (0, q)), (4, (0, y4)), (5, (0, y5))], [], w) (fun r w' => ∃ z : Int, r = [(0, z)] ∧ w = w' ∧ -1 ≤ z ∧ z ≤ 4099 ∧ (0 ≤ z → z < cntK w f q)) := by
    intro nn
    induction nn with
    | zero => intro y4 y5 hj hm; obtain ⟨j3, j4⟩ := hj; exfalso; omega
    | succ nn ih2 =>
      intro y4 y5 hj hm
      obtain ⟨j3, j4⟩ := hj
      refine e_Ok.run (t' := (9, [(0, (1, 275)), (1, (0, f)), (2, (0, n)), (3, (0, q)), (4, (0, y4)), (5, (0, y5))], [(0, q), (0, y5)], w)) 2 rfl ?_
      refine e_Ok.if2 rfl (fun h5 => ?_) (fun h5 => ?_)
      · replace h5 : (y5 : Int) ≥ q := h5
        refine e_Ok.run (t' := (46, [(0, (1, 275)), (1, (0, f)), (2, (0, n)), (3, (0, q)), (4, (0, y4)), (5, (0, y5))], [(0, (-1))], w)) 1 rfl ?_
        refine e_Ok.rets rfl rfl ?_
        exact ⟨_, rfl, rfl, by decide, by decide, fun z => absurd z (by decide)⟩
      · replace h5 : (y5 : Int) < q := by have q : ¬ ((y5 : Int) ≥ q) := h5; omega
        have hk := hR y5 (by omega) (by omega)
        refine e_Ok.run (t' := (13, [(0, (1, 275)), (1, (0, f)), (2, (0, n)), (3, (0, q)), (4, (0, y4)), (5, (0, y5))], [(1, 275)], w)) 1 rfl ?_
        refine e_Ok.getr (z := 341) rfl (el_o rfl) rfl rfl (e_Has.eq hT rfl) (by omega) ?_
        refine e_Ok.run (t' := (18, [(0, (1, 275)), (1, (0, f)), (2, (0, n)), (3, (0, q)), (4, (0, y4)), (5, (0, y5))], [(0, y5), (1, 341)], w)) 1 rfl ?_
        refine e_Ok.ald (z := w 341 y5) rfl (el_o rfl) rfl (by omega) rfl (by omega) ?_
        refine e_Ok.run (t' := (20, [(0, (1, 275)), (1, (0, f)), (2, (0, n)), (3, (0, q)), (4, (0, y4)), (5, (0, y5))], [(0, f), (0, w 341 y5)], w)) 1 rfl ?_
        refine e_Ok.if2 rfl (fun h6 => ?_) (fun h6 => ?_)
        · replace h6 : (w 341 y5 : Int) ≠ f := h6
          refine e_Ok.inc (z := y5 + 1) rfl rfl (by omega) (by omega) ?_
          show e_Ok 20 elay ecode eI (d + 1) 355 (42, [(5, (0, y5 + 1)), (0, (1, 275)), (1, (0, f)), (2, (0, n)), (3, (0, q)), (4, (0, y4))], [], w) _
          refine e_Ok.run (t' := (6, [(5, (0, y5 + 1)), (0, (1, 275)), (1, (0, f)), (2, (0, n)), (3, (0, q)), (4, (0, y4))], [], w)) 1 rfl ?_
          refine e_Ok.sub eAlk (e_sub_of rfl ?_) (ih2 y4 (y5 + 1) ⟨(by rw [cntK_next w f (show 0 ≤ y5 by omega)]; split <;> omega), by omega⟩ (by omega))
          exact ⟨rfl, rfl, rfl, rfl, rfl, rfl, trivial⟩
        · replace h6 : (w 341 y5 : Int) = f := by have q : ¬ ((w 341 y5 : Int) ≠ f) := h6; omega
          refine e_Ok.run (t' := (27, [(0, (1, 275)), (1, (0, f)), (2, (0, n)), (3, (0, q)), (4, (0, y4)), (5, (0, y5))], [(0, n), (0, y5), (1, 275)], w)) 3 rfl ?_
          refine e_Ok.callV rfl (by omega) rfl rfl rfl rfl (c_354 hT hH (N := N) hN (by omega) (by omega) (hB y5 (by omega) (by omega) (by omega)) (hB n (by omega) (by omega) h4)) (fun r7 w8 h9 => ?_)
          obtain ⟨z10, rfl, rfl, q11⟩ := h9
          show e_Ok 20 elay ecode eI (d + 1) 355 (30, [(0, (1, 275)), (1, (0, f)), (2, (0, n)), (3, (0, q)), (4, (0, y4)), (5, (0, y5))], [(0, z10)], w) _
          refine e_Ok.if1 rfl (fun h12 => ?_) (fun h12 => ?_)
          · replace h12 : (z10 : Int) = 0 := h12
            refine e_Ok.inc (z := y4 + 1) rfl rfl (by omega) (by omega) ?_
            show e_Ok 20 elay ecode eI (d + 1) 355 (39, [(4, (0, y4 + 1)), (0, (1, 275)), (1, (0, f)), (2, (0, n)), (3, (0, q)), (5, (0, y5))], [], w) _
            refine e_Ok.inc (z := y5 + 1) rfl rfl (by omega) (by omega) ?_
            show e_Ok 20 elay ecode eI (d + 1) 355 (42, [(5, (0, y5 + 1)), (4, (0, y4 + 1)), (0, (1, 275)), (1, (0, f)), (2, (0, n)), (3, (0, q))], [], w) _
            refine e_Ok.run (t' := (6, [(5, (0, y5 + 1)), (4, (0, y4 + 1)), (0, (1, 275)), (1, (0, f)), (2, (0, n)), (3, (0, q))], [], w)) 1 rfl ?_
            refine e_Ok.sub eAlk (e_sub_of rfl ?_) (ih2 (y4 + 1) (y5 + 1) ⟨(by rw [cntK_next w f (show 0 ≤ y5 by omega)]; split <;> omega), by omega⟩ (by omega))
            exact ⟨rfl, rfl, rfl, rfl, rfl, rfl, trivial⟩
          · replace h12 : (z10 : Int) ≠ 0 := by have q : ¬ ((z10 : Int) = 0) := h12; omega
            refine e_Ok.run (t' := (35, [(0, (1, 275)), (1, (0, f)), (2, (0, n)), (3, (0, q)), (4, (0, y4)), (5, (0, y5))], [(0, y4)], w)) 1 rfl ?_
            refine e_Ok.rets rfl rfl ?_
            exact ⟨_, rfl, rfl, by omega, by omega, fun _ => by rw [j3]; exact cntK_lt (by omega) (by omega) (by omega)⟩
  refine e_Ok.sub eAlk (e_sub_of rfl ?_) (hL1 (4100 + 1 : Int).toNat 0 0 ⟨(cntK_zero w f).symm, by omega⟩ (by omega))
  exact ⟨rfl, rfl, rfl, rfl, rfl, rfl, trivial⟩
theorem c_356_0 {d : Nat} (hd : 22 ≤ d) {w : eW} (hT : e_Has mTy w) (hH : e_Has hTy w) {N n mm : Int} (hN : N ≤ 4000) (hm94 : w 275 94 = mm) (hmm : 0 ≤ mm ∧ mm ≤ 4099) (hnr : 0 ≤ n ∧ n ≤ 9900) (hf : w 275 88 ≠ 0) : e_Ok 20 elay ecode eI d 356 (0, [(0, (1, 275))], [], w) (fun r w' => r = [] ∧ w = w') := by
  obtain ⟨d, rfl⟩ : ∃ e, d = e + 1 := ⟨d - 1, by omega⟩
  have hfr := e_Has.get hH (c := 275) (k := 88) (lo := 0) (hi := 7) rfl (by decide)
  refine e_Ok.run (t' := (4, [(1, (0, 0)), (0, (1, 275))], [(1, 275), (0, 0)], w)) 4 rfl ?_
  refine e_Ok.getf (z := mm) rfl (el_o rfl) rfl rfl hm94 (by omega) ?_
  refine e_Ok.if2 rfl (fun h1 => ?_) (fun h1 => ?_)
  · replace h1 : (0 : Int) ≥ mm := h1
    refine e_Ok.rets rfl rfl ?_
    exact ⟨rfl, rfl⟩
  · replace h1 : (0 : Int) < mm := by have q : ¬ ((0 : Int) ≥ mm) := h1; omega
    refine e_Ok.run (t' := (11, [(1, (0, 0)), (0, (1, 275))], [(1, 275)], w)) 1 rfl ?_
    refine e_Ok.getf (z := w 275 88) rfl (el_o rfl) rfl rfl rfl (by omega) ?_
    refine e_Ok.if1 rfl (fun h2 => ?_) (fun h2 => ?_)
    · replace h2 : (w 275 88 : Int) ≠ 0 := h2
      refine e_Ok.rets rfl rfl ?_
      exact ⟨rfl, rfl⟩
    · replace h2 : (w 275 88 : Int) = 0 := by have q : ¬ ((w 275 88 : Int) ≠ 0) := h2; omega
      exfalso; omega
set_option maxHeartbeats 4000000 in
theorem c_356 {d : Nat} (hd : 25 ≤ d) {w : eW} (hT : e_Has mTy w) (hH : e_Has hTy w) {N n mm : Int} (hN : N ≤ 4000) (hm94 : w 275 94 = mm) (hmm : 0 ≤ mm ∧ mm ≤ 4099) (hnr : 0 ≤ n ∧ n ≤ 9900) (h0 : w 275 88 = 0) (hNM : NM w N n mm) (hK : nK w n mm (fun _ => False)) (h9 : w 339 4 = 0) (h8 : w 338 4 = 0) : e_Ok 20 elay ecode eI d 356 (0, [(0, (1, 275))], [], w) (fun r w' => r = [] ∧ e_fr mRsv w w' ∧ e_Has mTy w' ∧ e_Has hTy w' ∧ (w' 275 88 = 0 → RS w w' n mm mm)) := by
  obtain ⟨d, rfl⟩ : ∃ e, d = e + 1 := ⟨d - 1, by omega⟩
  refine e_Ok.run (t' := (2, [(1, (0, 0)), (0, (1, 275))], [], w)) 2 rfl ?_
  have hL1 : ∀ (nn : Nat) (y1 : Int) (v1 : eW), e_fr mRsv w v1 ∧ e_Has mTy v1 ∧ e_Has hTy v1 ∧ ((0 ≤ y1 ∧ y1 ≤ mm)) ∧ Hid (v1 275 88 = 0 → RS w v1 n mm y1) → mm - y1 < nn → e_Ok 20 elay ecode eI (d + 1) 356 (2, [(0, (1, 275)), (1, (0, y1))], [], v1) (fun r w' => r = [] ∧ e_fr mRsv w w' ∧ e_Has mTy w' ∧ e_Has hTy w' ∧ (w' 275 88 = 0 → RS w w' n mm mm)) := by
    intro nn
    induction nn with
    | zero => intro y1 v1 hj hm; obtain ⟨j3, j4, j5, j6, j7⟩ := hj; exfalso; omega
    | succ nn ih2 =>
      intro y1 v1 hj hm
      obtain ⟨j3, j4, j5, j6, j7⟩ := hj
      have xf := e_Has.get j5 (c := 275) (k := 88) (lo := 0) (hi := 7) rfl (by decide)
      refine e_Ok.run (t' := (4, [(0, (1, 275)), (1, (0, y1))], [(1, 275), (0, y1)], v1)) 2 rfl ?_
      refine e_Ok.getf (z := mm) rfl (el_o rfl) rfl rfl ((j3 275 94 (by unfold mRsv; omega)).trans hm94) (by omega) ?_
      refine e_Ok.if2 rfl (fun h8 => ?_) (fun h8 => ?_)
      · replace h8 : (y1 : Int) ≥ mm := h8
        refine e_Ok.rets rfl rfl ?_
        exact ⟨rfl, j3, j4, j5, (fun z => by have y := j7.out z; rw [show y1 = mm by omega] at y; exact y)⟩
      · replace h8 : (y1 : Int) < mm := by have q : ¬ ((y1 : Int) ≥ mm) := h8; omega
        refine e_Ok.run (t' := (11, [(0, (1, 275)), (1, (0, y1))], [(1, 275)], v1)) 1 rfl ?_
        have h9 := (e_Has.get j5 (c := 275) (k := 88) (lo := 0) (hi := 7) rfl (by decide))
        refine e_Ok.getf (z := v1 275 88) rfl (el_o rfl) rfl rfl rfl (by omega) ?_
        refine e_Ok.if1 rfl (fun h10 => ?_) (fun h10 => ?_)
        · replace h10 : (v1 275 88 : Int) ≠ 0 := h10
          refine e_Ok.rets rfl rfl ?_
          exact ⟨rfl, j3, j4, j5, (fun z => absurd z (by omega))⟩
        · replace h10 : (v1 275 88 : Int) = 0 := by have q : ¬ ((v1 275 88 : Int) ≠ 0) := h10; omega
          have hk := hNM.1 y1 (by omega) (by omega)
          unfold nmO at hk
          obtain ⟨hk1, hk2, hk3⟩ := hk
          replace hk3 := (show Hid _ from hk3)
          have hRS := j7.out (by omega)
          have hr1 := hRS.1
          have hr2 := hRS.2.1
          have hc0 := cntK_nn w 0 y1
          have hc1 := cntK_nn w 1 y1
          have h41 : ∀ m, v1 341 m = w 341 m := fun m => j3 341 m (by unfold mRsv; omega)
          have hRv : ∀ m, 0 ≤ m → m < mm → 0 ≤ v1 341 m ∧ v1 341 m ≤ 4 := fun m m1 m2 => by rw [h41]; exact (hNM.1 m m1 m2).1
          have hBv : ∀ m, 0 ≤ m → m < mm → v1 341 m ≠ 4 → 0 ≤ v1 342 m ∧ 0 ≤ v1 343 m ∧ v1 342 m + v1 343 m ≤ N := fun m m1 m2 m3 => by rw [h41] at m3; rw [j3 342 m (by unfold mRsv; omega), j3 343 m (by unfold mRsv; omega)]; have y := (hNM.1 m m1 m2).2.2 m3; exact ⟨y.1, y.2.1, y.2.2.1⟩
          refine e_Ok.run (t' := (18, [(0, (1, 275)), (1, (0, y1))], [(1, 275)], v1)) 1 rfl ?_
          refine e_Ok.getr (z := 341) rfl (el_o rfl) rfl rfl ((j3 275 90 (by unfold mRsv; omega)).trans (e_Has.eq hT rfl)) (by omega) ?_
          refine e_Ok.run (t' := (22, [(0, (1, 275)), (1, (0, y1))], [(0, y1), (1, 341)], v1)) 1 rfl ?_
          refine e_Ok.ald (z := w 341 y1) rfl (el_o rfl) rfl (by omega) ((j3 341 y1 (by unfold mRsv; omega)).trans rfl) (by omega) ?_
          refine e_Ok.run (t' := (28, [(3, (0, 0)), (2, (0, w 341 y1)), (0, (1, 275)), (1, (0, y1))], [(0, 2), (0, w 341 y1)], v1)) 5 rfl ?_
          refine e_Ok.if2 rfl (fun h11 => ?_) (fun h11 => ?_)
          · replace h11 : (w 341 y1 : Int) ≥ 2 := h11
            refine e_Ok.run (t' := (147, [(3, (0, 0)), (2, (0, w 341 y1)), (0, (1, 275)), (1, (0, y1))], [(0, 4), (0, w 341 y1)], v1)) 2 rfl ?_
            refine e_Ok.if2 rfl (fun h12 => ?_) (fun h12 => ?_)
            · replace h12 : (w 341 y1 : Int) ≠ 4 := h12
              have hk4 := hk3.out (by omega)
              refine e_Ok.run (t' := (159, [(3, (0, 0)), (2, (0, w 341 y1)), (0, (1, 275)), (1, (0, y1))], [(0, 2), (0, w 341 y1), (1, 275)], v1)) 3 rfl ?_
              refine e_Ok.sub' (z := w 341 y1 - 2) rfl (by omega) (by omega) ?_
              refine e_Ok.run (t' := (162, [(3, (0, 0)), (2, (0, w 341 y1)), (0, (1, 275)), (1, (0, y1))], [(1, 275), (0, y1), (0, w 341 y1 - 2), (1, 275)], v1)) 2 rfl ?_
              refine e_Ok.getf (z := mm) rfl (el_o rfl) rfl rfl ((j3 275 94 (by unfold mRsv; omega)).trans hm94) (by omega) ?_
              refine e_Ok.callV rfl (by omega) rfl rfl rfl rfl (c_355 (by omega) j4 j5 (N := N) (mm := mm) (f := w 341 y1 - 2) (n := y1) (q := mm) hN hmm (by omega) (by omega) (by omega) hRv hBv (by rw [h41]; omega)) (fun r13 w14 h15 => ?_)
              obtain ⟨z16, rfl, rfl, q17, q17b, q17c⟩ := h15
              rw [cntK_eq h41] at q17c
              replace q17c := (show Hid _ from q17c)
              show e_Ok 20 elay ecode eI (d + 1) 356 (168, [(3, (0, 0)), (2, (0, w 341 y1)), (0, (1, 275)), (1, (0, y1))], [(0, z16)], v1) _
              refine e_Ok.run (t' := (172, [(4, (0, z16)), (3, (0, 0)), (2, (0, w 341 y1)), (0, (1, 275)), (1, (0, y1))], [(0, z16)], v1)) 2 rfl ?_
              refine e_Ok.if1 rfl (fun h18 => ?_) (fun h18 => ?_)
              · replace h18 : (z16 : Int) ≥ 0 := h18
                refine e_Ok.run (t' := (182, [(3, (0, 0)), (4, (0, z16)), (2, (0, w 341 y1)), (0, (1, 275)), (1, (0, y1))], [(1, 275)], v1)) 3 rfl ?_
                refine e_Ok.getr (z := 329) rfl (el_o rfl) rfl rfl ((j3 275 66 (by unfold mRsv; omega)).trans (e_Has.eq hT rfl)) (by omega) ?_
                refine e_Ok.run (t' := (189, [(3, (0, 0)), (4, (0, z16)), (2, (0, w 341 y1)), (0, (1, 275)), (1, (0, y1))], [(1, 275), (0, 40000), (1, 329)], v1)) 2 rfl ?_
                refine e_Ok.getr (z := 344) rfl (el_o rfl) rfl rfl ((j3 275 93 (by unfold mRsv; omega)).trans (e_Has.eq hT rfl)) (by omega) ?_
                refine e_Ok.run (t' := (193, [(3, (0, 0)), (4, (0, z16)), (2, (0, w 341 y1)), (0, (1, 275)), (1, (0, y1))], [(0, y1), (1, 344), (0, 40000), (1, 329)], v1)) 1 rfl ?_
                refine e_Ok.ald (z := w 344 y1) rfl (el_o rfl) rfl (by omega) ((j3 344 y1 (by unfold mRsv; omega)).trans rfl) (by omega) ?_
                refine e_Ok.add (z := w 344 y1 + 40000) rfl (by omega) (by omega) ?_
                refine e_Ok.run (t' := (197, [(3, (0, 0)), (4, (0, z16)), (2, (0, w 341 y1)), (0, (1, 275)), (1, (0, y1))], [(0, z16), (0, w 344 y1 + 40000), (1, 329)], v1)) 1 rfl ?_
                refine e_Ok.ast rfl (el_o rfl) rfl rfl (by omega) ?_
                generalize hw19 : e_up v1 329 (w 344 y1 + 40000) z16 = w19
                have f20 : e_fr mRsv w w19 := e_fr.up j3 hw19 (by unfold mRsv; omega)
                have hH21 : e_Has hTy w19 := e_Has.ups j5 hw19 rfl
                have hT22 : e_Has mTy w19 := e_Has.upr j4 hw19 rfl (by omega)
                refine e_Ok.run (t' := (199, [(3, (0, 0)), (4, (0, z16)), (2, (0, w 341 y1)), (0, (1, 275)), (1, (0, y1))], [(0, 0)], w19)) 1 rfl ?_
                refine e_Ok.if1 rfl (fun h23 => ?_) (fun h23 => ?_)
                · replace h23 : (0 : Int) = 0 := h23
                  refine e_Ok.inc (z := y1 + 1) rfl rfl (by omega) (by omega) ?_
                  show e_Ok 20 elay ecode eI (d + 1) 356 (220, [(1, (0, y1 + 1)), (3, (0, 0)), (4, (0, z16)), (2, (0, w 341 y1)), (0, (1, 275))], [], w19) _
                  refine e_Ok.run (t' := (2, [(1, (0, y1 + 1)), (3, (0, 0)), (4, (0, z16)), (2, (0, w 341 y1)), (0, (1, 275))], [], w19)) 1 rfl ?_
                  refine e_Ok.sub eAlk (e_sub_of rfl ?_) (ih2 (y1 + 1) w19 ⟨f20, hT22, hH21, by omega, (Hid.mk (fun z => RS.use hRS (by omega) (by omega) hK hw19 ⟨by omega, q17c.out (by omega)⟩))⟩ (by omega))
                  exact ⟨rfl, rfl, trivial⟩
                · replace h23 : (0 : Int) ≠ 0 := by have q : ¬ ((0 : Int) = 0) := h23; omega
                  exfalso; omega
              · replace h18 : (z16 : Int) < 0 := by have q : ¬ ((z16 : Int) ≥ 0) := h18; omega
                refine e_Ok.run (t' := (182, [(3, (0, 5)), (4, (0, z16)), (2, (0, w 341 y1)), (0, (1, 275)), (1, (0, y1))], [(1, 275)], v1)) 4 rfl ?_
                refine e_Ok.getr (z := 329) rfl (el_o rfl) rfl rfl ((j3 275 66 (by unfold mRsv; omega)).trans (e_Has.eq hT rfl)) (by omega) ?_
                refine e_Ok.run (t' := (189, [(3, (0, 5)), (4, (0, z16)), (2, (0, w 341 y1)), (0, (1, 275)), (1, (0, y1))], [(1, 275), (0, 40000), (1, 329)], v1)) 2 rfl ?_
                refine e_Ok.getr (z := 344) rfl (el_o rfl) rfl rfl ((j3 275 93 (by unfold mRsv; omega)).trans (e_Has.eq hT rfl)) (by omega) ?_
                refine e_Ok.run (t' := (193, [(3, (0, 5)), (4, (0, z16)), (2, (0, w 341 y1)), (0, (1, 275)), (1, (0, y1))], [(0, y1), (1, 344), (0, 40000), (1, 329)], v1)) 1 rfl ?_
                refine e_Ok.ald (z := w 344 y1) rfl (el_o rfl) rfl (by omega) ((j3 344 y1 (by unfold mRsv; omega)).trans rfl) (by omega) ?_
                refine e_Ok.add (z := w 344 y1 + 40000) rfl (by omega) (by omega) ?_
                refine e_Ok.run (t' := (197, [(3, (0, 5)), (4, (0, z16)), (2, (0, w 341 y1)), (0, (1, 275)), (1, (0, y1))], [(0, z16), (0, w 344 y1 + 40000), (1, 329)], v1)) 1 rfl ?_
                refine e_Ok.ast rfl (el_o rfl) rfl rfl (by omega) ?_
                generalize hw24 : e_up v1 329 (w 344 y1 + 40000) z16 = w24
                have f25 : e_fr mRsv w w24 := e_fr.up j3 hw24 (by unfold mRsv; omega)
                have hH26 : e_Has hTy w24 := e_Has.ups j5 hw24 rfl
                have hT27 : e_Has mTy w24 := e_Has.upr j4 hw24 rfl (by omega)
                refine e_Ok.run (t' := (199, [(3, (0, 5)), (4, (0, z16)), (2, (0, w 341 y1)), (0, (1, 275)), (1, (0, y1))], [(0, 5)], w24)) 1 rfl ?_
                refine e_Ok.if1 rfl (fun h28 => ?_) (fun h28 => ?_)
                · replace h28 : (5 : Int) = 0 := h28
                  exfalso; omega
                · replace h28 : (5 : Int) ≠ 0 := by have q : ¬ ((5 : Int) = 0) := h28; omega
                  refine e_Ok.run (t' := (204, [(3, (0, 5)), (4, (0, z16)), (2, (0, w 341 y1)), (0, (1, 275)), (1, (0, y1))], [(0, 5), (1, 275)], w24)) 2 rfl ?_
                  refine e_Ok.putf rfl (el_o rfl) rfl rfl ?_
                  generalize hw29 : e_up w24 275 88 5 = w29
                  have f30 : e_fr mRsv w w29 := e_fr.up f25 hw29 (by unfold mRsv; omega)
                  have hH31 : e_Has hTy w29 := e_Has.upr hH26 hw29 rfl (by omega)
                  have hT32 : e_Has mTy w29 := e_Has.ups hT27 hw29 rfl
                  refine e_Ok.run (t' := (209, [(3, (0, 5)), (4, (0, z16)), (2, (0, w 341 y1)), (0, (1, 275)), (1, (0, y1))], [(1, 275), (1, 275)], w29)) 2 rfl ?_
                  refine e_Ok.getr (z := 342) rfl (el_o rfl) rfl rfl (by rw [← hw29]; exact (e_up_ne _ _ (Or.inr (by omega))).trans (by rw [← hw24]; exact (e_up_ne _ _ (Or.inl (by omega))).trans ((j3 275 91 (by unfold mRsv; omega)).trans (e_Has.eq hT rfl)))) (by omega) ?_
                  refine e_Ok.run (t' := (213, [(3, (0, 5)), (4, (0, z16)), (2, (0, w 341 y1)), (0, (1, 275)), (1, (0, y1))], [(0, y1), (1, 342), (1, 275)], w29)) 1 rfl ?_
                  refine e_Ok.ald (z := w 342 y1) rfl (el_o rfl) rfl (by omega) (by rw [← hw29]; exact (e_up_ne _ _ (Or.inl (by omega))).trans (by rw [← hw24]; exact (e_up_ne _ _ (Or.inl (by omega))).trans ((j3 342 y1 (by unfold mRsv; omega)).trans rfl))) (by omega) ?_
                  refine e_Ok.putf rfl (el_o rfl) rfl rfl ?_
                  generalize hw33 : e_up w29 275 89 (w 342 y1) = w33
                  have f34 : e_fr mRsv w w33 := e_fr.up f30 hw33 (by unfold mRsv; omega)
                  have hH35 : e_Has hTy w33 := e_Has.upr hH31 hw33 rfl (by omega)
                  have hT36 : e_Has mTy w33 := e_Has.ups hT32 hw33 rfl
                  refine e_Ok.inc (z := y1 + 1) rfl rfl (by omega) (by omega) ?_
                  show e_Ok 20 elay ecode eI (d + 1) 356 (220, [(1, (0, y1 + 1)), (3, (0, 5)), (4, (0, z16)), (2, (0, w 341 y1)), (0, (1, 275))], [], w33) _
                  refine e_Ok.run (t' := (2, [(1, (0, y1 + 1)), (3, (0, 5)), (4, (0, z16)), (2, (0, w 341 y1)), (0, (1, 275))], [], w33)) 1 rfl ?_
                  refine e_Ok.sub eAlk (e_sub_of rfl ?_) (ih2 (y1 + 1) w33 ⟨f34, hT36, hH35, by omega, (Hid.mk (fun z => absurd (Eq.trans (Eq.symm (show w33 275 88 = 5 from (by rw [← hw33]; exact (e_up_ne _ _ (Or.inr (by omega))).trans (by rw [← hw29]; exact e_up_eq _ _ _ _)))) z) (by decide)))⟩ (by omega))
                  exact ⟨rfl, rfl, trivial⟩
            · replace h12 : (w 341 y1 : Int) = 4 := by have q : ¬ ((w 341 y1 : Int) ≠ 4) := h12; omega
              refine e_Ok.run (t' := (199, [(3, (0, 6)), (2, (0, w 341 y1)), (0, (1, 275)), (1, (0, y1))], [(0, 6)], v1)) 4 rfl ?_
              refine e_Ok.if1 rfl (fun h37 => ?_) (fun h37 => ?_)
              · replace h37 : (6 : Int) = 0 := h37
                exfalso; omega
              · replace h37 : (6 : Int) ≠ 0 := by have q : ¬ ((6 : Int) = 0) := h37; omega
                refine e_Ok.run (t' := (204, [(3, (0, 6)), (2, (0, w 341 y1)), (0, (1, 275)), (1, (0, y1))], [(0, 6), (1, 275)], v1)) 2 rfl ?_
                refine e_Ok.putf rfl (el_o rfl) rfl rfl ?_
                generalize hw38 : e_up v1 275 88 6 = w38
                have f40 : e_fr mRsv w w38 := e_fr.up j3 hw38 (by unfold mRsv; omega)
                have hH41 : e_Has hTy w38 := e_Has.upr j5 hw38 rfl (by omega)
                have hT42 : e_Has mTy w38 := e_Has.ups j4 hw38 rfl
                refine e_Ok.run (t' := (209, [(3, (0, 6)), (2, (0, w 341 y1)), (0, (1, 275)), (1, (0, y1))], [(1, 275), (1, 275)], w38)) 2 rfl ?_
                refine e_Ok.getr (z := 342) rfl (el_o rfl) rfl rfl (by rw [← hw38]; exact (e_up_ne _ _ (Or.inr (by omega))).trans ((j3 275 91 (by unfold mRsv; omega)).trans (e_Has.eq hT rfl))) (by omega) ?_
                refine e_Ok.run (t' := (213, [(3, (0, 6)), (2, (0, w 341 y1)), (0, (1, 275)), (1, (0, y1))], [(0, y1), (1, 342), (1, 275)], w38)) 1 rfl ?_
                refine e_Ok.ald (z := w 342 y1) rfl (el_o rfl) rfl (by omega) (by rw [← hw38]; exact (e_up_ne _ _ (Or.inl (by omega))).trans ((j3 342 y1 (by unfold mRsv; omega)).trans rfl)) (by omega) ?_
                refine e_Ok.putf rfl (el_o rfl) rfl rfl ?_
                generalize hw43 : e_up w38 275 89 (w 342 y1) = w43
                have f44 : e_fr mRsv w w43 := e_fr.up f40 hw43 (by unfold mRsv; omega)
                have hH45 : e_Has hTy w43 := e_Has.upr hH41 hw43 rfl (by omega)
                have hT46 : e_Has mTy w43 := e_Has.ups hT42 hw43 rfl
                refine e_Ok.inc (z := y1 + 1) rfl rfl (by omega) (by omega) ?_
                show e_Ok 20 elay ecode eI (d + 1) 356 (220, [(1, (0, y1 + 1)), (3, (0, 6)), (2, (0, w 341 y1)), (0, (1, 275))], [], w43) _
                refine e_Ok.run (t' := (2, [(1, (0, y1 + 1)), (3, (0, 6)), (2, (0, w 341 y1)), (0, (1, 275))], [], w43)) 1 rfl ?_
                refine e_Ok.sub eAlk (e_sub_of rfl ?_) (ih2 (y1 + 1) w43 ⟨f44, hT46, hH45, by omega, (Hid.mk (fun z => absurd (Eq.trans (Eq.symm (show w43 275 88 = 6 from (by rw [← hw43]; exact (e_up_ne _ _ (Or.inr (by omega))).trans (by rw [← hw38]; exact e_up_eq _ _ _ _)))) z) (by decide)))⟩ (by omega))
                exact ⟨rfl, rfl, trivial⟩
          · replace h11 : (w 341 y1 : Int) < 2 := by have q : ¬ ((w 341 y1 : Int) ≥ 2) := h11; omega
            have hk4 := hk3.out (by omega)
            refine e_Ok.run (t' := (35, [(3, (0, 0)), (2, (0, w 341 y1)), (0, (1, 275)), (1, (0, y1))], [(0, y1), (0, y1), (0, 0), (1, 275)], v1)) 4 rfl ?_
            refine e_Ok.callV rfl (by omega) rfl rfl rfl rfl (c_355 (by omega) j4 j5 (N := N) (mm := mm) (f := 0) (n := y1) (q := y1) hN hmm (by omega) (by omega) (by omega) hRv hBv (by rw [h41]; omega)) (fun r47 w48 h49 => ?_)
            obtain ⟨z50, rfl, rfl, q51, q51b, q51c⟩ := h49
            rw [cntK_eq h41] at q51c
            replace q51c := (show Hid _ from q51c)
            show e_Ok 20 elay ecode eI (d + 1) 356 (38, [(3, (0, 0)), (2, (0, w 341 y1)), (0, (1, 275)), (1, (0, y1))], [(0, z50)], v1) _
            refine e_Ok.if1 rfl (fun h52 => ?_) (fun h52 => ?_)
            · replace h52 : (z50 : Int) ≥ 0 := h52
              refine e_Ok.run (t' := (87, [(3, (0, 4)), (2, (0, w 341 y1)), (0, (1, 275)), (1, (0, y1))], [(0, 4)], v1)) 4 rfl ?_
              refine e_Ok.if1 rfl (fun h53 => ?_) (fun h53 => ?_)
              · replace h53 : (4 : Int) ≠ 0 := h53
                refine e_Ok.run (t' := (108, [(3, (0, 4)), (2, (0, w 341 y1)), (0, (1, 275)), (1, (0, y1))], [(0, 4)], v1)) 1 rfl ?_
                refine e_Ok.if1 rfl (fun h54 => ?_) (fun h54 => ?_)
                · replace h54 : (4 : Int) ≠ 0 := h54
                  refine e_Ok.run (t' := (199, [(3, (0, 4)), (2, (0, w 341 y1)), (0, (1, 275)), (1, (0, y1))], [(0, 4)], v1)) 1 rfl ?_
                  refine e_Ok.if1 rfl (fun h55 => ?_) (fun h55 => ?_)
                  · replace h55 : (4 : Int) = 0 := h55
                    exfalso; omega
                  · replace h55 : (4 : Int) ≠ 0 := by have q : ¬ ((4 : Int) = 0) := h55; omega
                    refine e_Ok.run (t' := (204, [(3, (0, 4)), (2, (0, w 341 y1)), (0, (1, 275)), (1, (0, y1))], [(0, 4), (1, 275)], v1)) 2 rfl ?_
                    refine e_Ok.putf rfl (el_o rfl) rfl rfl ?_
                    generalize hw56 : e_up v1 275 88 4 = w56
                    have f57 : e_fr mRsv w w56 := e_fr.up j3 hw56 (by unfold mRsv; omega)
                    have hH58 : e_Has hTy w56 := e_Has.upr j5 hw56 rfl (by omega)
                    have hT59 : e_Has mTy w56 := e_Has.ups j4 hw56 rfl
                    refine e_Ok.run (t' := (209, [(3, (0, 4)), (2, (0, w 341 y1)), (0, (1, 275)), (1, (0, y1))], [(1, 275), (1, 275)], w56)) 2 rfl ?_
                    refine e_Ok.getr (z := 342) rfl (el_o rfl) rfl rfl (by rw [← hw56]; exact (e_up_ne _ _ (Or.inr (by omega))).trans ((j3 275 91 (by unfold mRsv; omega)).trans (e_Has.eq hT rfl))) (by omega) ?_
                    refine e_Ok.run (t' := (213, [(3, (0, 4)), (2, (0, w 341 y1)), (0, (1, 275)), (1, (0, y1))], [(0, y1), (1, 342), (1, 275)], w56)) 1 rfl ?_
                    refine e_Ok.ald (z := w 342 y1) rfl (el_o rfl) rfl (by omega) (by rw [← hw56]; exact (e_up_ne _ _ (Or.inl (by omega))).trans ((j3 342 y1 (by unfold mRsv; omega)).trans rfl)) (by omega) ?_
                    refine e_Ok.putf rfl (el_o rfl) rfl rfl ?_
                    generalize hw60 : e_up w56 275 89 (w 342 y1) = w60
                    have f61 : e_fr mRsv w w60 := e_fr.up f57 hw60 (by unfold mRsv; omega)
                    have hH62 : e_Has hTy w60 := e_Has.upr hH58 hw60 rfl (by omega)
                    have hT63 : e_Has mTy w60 := e_Has.ups hT59 hw60 rfl
                    refine e_Ok.inc (z := y1 + 1) rfl rfl (by omega) (by omega) ?_
                    show e_Ok 20 elay ecode eI (d + 1) 356 (220, [(1, (0, y1 + 1)), (3, (0, 4)), (2, (0, w 341 y1)), (0, (1, 275))], [], w60) _
                    refine e_Ok.run (t' := (2, [(1, (0, y1 + 1)), (3, (0, 4)), (2, (0, w 341 y1)), (0, (1, 275))], [], w60)) 1 rfl ?_
                    refine e_Ok.sub eAlk (e_sub_of rfl ?_) (ih2 (y1 + 1) w60 ⟨f61, hT63, hH62, by omega, (Hid.mk (fun z => absurd (Eq.trans (Eq.symm (show w60 275 88 = 4 from (by rw [← hw60]; exact (e_up_ne _ _ (Or.inr (by omega))).trans (by rw [← hw56]; exact e_up_eq _ _ _ _)))) z) (by decide)))⟩ (by omega))
                    exact ⟨rfl, rfl, trivial⟩
                · replace h54 : (4 : Int) = 0 := by have q : ¬ ((4 : Int) ≠ 0) := h54; omega
                  exfalso; omega
              · replace h53 : (4 : Int) = 0 := by have q : ¬ ((4 : Int) ≠ 0) := h53; omega
                exfalso; omega
            · replace h52 : (z50 : Int) < 0 := by have q : ¬ ((z50 : Int) ≥ 0) := h52; omega
              refine e_Ok.run (t' := (45, [(3, (0, 0)), (2, (0, w 341 y1)), (0, (1, 275)), (1, (0, y1))], [(0, y1), (0, y1), (0, 1), (1, 275)], v1)) 4 rfl ?_
              refine e_Ok.callV rfl (by omega) rfl rfl rfl rfl (c_355 (by omega) j4 j5 (N := N) (mm := mm) (f := 1) (n := y1) (q := y1) hN hmm (by omega) (by omega) (by omega) hRv hBv (by rw [h41]; omega)) (fun r64 w65 h66 => ?_)
              obtain ⟨z67, rfl, rfl, q68, q68b, q68c⟩ := h66
              rw [cntK_eq h41] at q68c
              replace q68c := (show Hid _ from q68c)
              show e_Ok 20 elay ecode eI (d + 1) 356 (48, [(3, (0, 0)), (2, (0, w 341 y1)), (0, (1, 275)), (1, (0, y1))], [(0, z67)], v1) _
              refine e_Ok.if1 rfl (fun h69 => ?_) (fun h69 => ?_)
              · replace h69 : (z67 : Int) < 0 := h69
                refine e_Ok.run (t' := (56, [(3, (0, 0)), (2, (0, w 341 y1)), (0, (1, 275)), (1, (0, y1))], [(0, w 341 y1)], v1)) 1 rfl ?_
                refine e_Ok.if1 rfl (fun h70 => ?_) (fun h70 => ?_)
                · replace h70 : (w 341 y1 : Int) ≠ 0 := h70
                  refine e_Ok.run (t' := (69, [(3, (0, 0)), (2, (0, w 341 y1)), (0, (1, 275)), (1, (0, y1))], [(1, 275)], v1)) 1 rfl ?_
                  refine e_Ok.getr (z := 338) rfl (el_o rfl) rfl rfl ((j3 275 75 (by unfold mRsv; omega)).trans (e_Has.eq hT rfl)) (by omega) ?_
                  refine e_Ok.run (t' := (73, [(3, (0, 0)), (2, (0, w 341 y1)), (0, (1, 275)), (1, (0, y1))], [(0, 4), (1, 338)], v1)) 1 rfl ?_
                  have h71 := (e_Has.get j4 (c := 338) (k := 4) (lo := 0) (hi := 32) rfl (by decide))
                  refine e_Ok.ald (z := v1 338 4) rfl (el_o rfl) rfl (by omega) rfl (by omega) ?_
                  refine e_Ok.run (t' := (76, [(3, (0, 0)), (2, (0, w 341 y1)), (0, (1, 275)), (1, (0, y1))], [(0, 32), (0, v1 338 4)], v1)) 1 rfl ?_
                  refine e_Ok.if2 rfl (fun h72 => ?_) (fun h72 => ?_)
                  · replace h72 : (v1 338 4 : Int) ≠ 32 := h72
                    refine e_Ok.run (t' := (87, [(3, (0, 0)), (2, (0, w 341 y1)), (0, (1, 275)), (1, (0, y1))], [(0, 0)], v1)) 3 rfl ?_
                    refine e_Ok.if1 rfl (fun h73 => ?_) (fun h73 => ?_)
                    · replace h73 : (0 : Int) ≠ 0 := h73
                      exfalso; omega
                    · replace h73 : (0 : Int) = 0 := by have q : ¬ ((0 : Int) ≠ 0) := h73; omega
                      refine e_Ok.run (t' := (91, [(3, (0, 0)), (2, (0, w 341 y1)), (0, (1, 275)), (1, (0, y1))], [(0, w 341 y1)], v1)) 1 rfl ?_
                      refine e_Ok.if1 rfl (fun h74 => ?_) (fun h74 => ?_)
                      · replace h74 : (w 341 y1 : Int) ≠ 0 := h74
                        refine e_Ok.run (t' := (108, [(3, (0, 0)), (2, (0, w 341 y1)), (0, (1, 275)), (1, (0, y1))], [(0, 0)], v1)) 1 rfl ?_
                        refine e_Ok.if1 rfl (fun h75 => ?_) (fun h75 => ?_)
                        · replace h75 : (0 : Int) ≠ 0 := h75
                          exfalso; omega
                        · replace h75 : (0 : Int) = 0 := by have q : ¬ ((0 : Int) ≠ 0) := h75; omega
                          refine e_Ok.run (t' := (112, [(3, (0, 0)), (2, (0, w 341 y1)), (0, (1, 275)), (1, (0, y1))], [(1, 275)], v1)) 1 rfl ?_
                          refine e_Ok.getr (z := 337) rfl (el_o rfl) rfl rfl ((j3 275 74 (by unfold mRsv; omega)).trans (e_Has.eq hT rfl)) (by omega) ?_
                          refine e_Ok.run (t' := (119, [(3, (0, 0)), (2, (0, w 341 y1)), (0, (1, 275)), (1, (0, y1))], [(1, 275), (0, 128), (1, 337)], v1)) 2 rfl ?_
                          refine e_Ok.getr (z := 338) rfl (el_o rfl) rfl rfl ((j3 275 75 (by unfold mRsv; omega)).trans (e_Has.eq hT rfl)) (by omega) ?_
                          refine e_Ok.run (t' := (123, [(3, (0, 0)), (2, (0, w 341 y1)), (0, (1, 275)), (1, (0, y1))], [(0, 4), (1, 338), (0, 128), (1, 337)], v1)) 1 rfl ?_
                          refine e_Ok.ald (z := v1 338 4) rfl (el_o rfl) rfl (by omega) rfl (by omega) ?_
                          refine e_Ok.add (z := v1 338 4 + 128) rfl (by omega) (by omega) ?_
                          refine e_Ok.run (t' := (126, [(3, (0, 0)), (2, (0, w 341 y1)), (0, (1, 275)), (1, (0, y1))], [(1, 275), (0, v1 338 4 + 128), (1, 337)], v1)) 1 rfl ?_
                          refine e_Ok.getr (z := 344) rfl (el_o rfl) rfl rfl ((j3 275 93 (by unfold mRsv; omega)).trans (e_Has.eq hT rfl)) (by omega) ?_
                          refine e_Ok.run (t' := (130, [(3, (0, 0)), (2, (0, w 341 y1)), (0, (1, 275)), (1, (0, y1))], [(0, y1), (1, 344), (0, v1 338 4 + 128), (1, 337)], v1)) 1 rfl ?_
                          refine e_Ok.ald (z := w 344 y1) rfl (el_o rfl) rfl (by omega) ((j3 344 y1 (by unfold mRsv; omega)).trans rfl) (by omega) ?_
                          refine e_Ok.ast rfl (el_o rfl) rfl rfl (by omega) ?_
                          generalize hw76 : e_up v1 337 (v1 338 4 + 128) (w 344 y1) = w76
                          have f77 : e_fr mRsv w w76 := e_fr.up j3 hw76 (by unfold mRsv; omega)
                          have hH78 : e_Has hTy w76 := e_Has.ups j5 hw76 rfl
                          have hT79 : e_Has mTy w76 := e_Has.upr j4 hw76 rfl (by omega)
                          refine e_Ok.run (t' := (133, [(3, (0, 0)), (2, (0, w 341 y1)), (0, (1, 275)), (1, (0, y1))], [(1, 275)], w76)) 1 rfl ?_
                          refine e_Ok.getr (z := 338) rfl (el_o rfl) rfl rfl (by rw [← hw76]; exact (e_up_ne _ _ (Or.inl (by omega))).trans ((j3 275 75 (by unfold mRsv; omega)).trans (e_Has.eq hT rfl))) (by omega) ?_
                          refine e_Ok.run (t' := (138, [(3, (0, 0)), (2, (0, w 341 y1)), (0, (1, 275)), (1, (0, y1))], [(0, 4), (1, 338), (0, 4), (1, 338)], w76)) 2 rfl ?_
                          refine e_Ok.ald (z := v1 338 4) rfl (el_o rfl) rfl (by omega) (by rw [← hw76]; exact (e_up_ne _ _ (Or.inl (by omega))).trans rfl) (by omega) ?_
                          refine e_Ok.run (t' := (140, [(3, (0, 0)), (2, (0, w 341 y1)), (0, (1, 275)), (1, (0, y1))], [(0, 1), (0, v1 338 4), (0, 4), (1, 338)], w76)) 1 rfl ?_
                          refine e_Ok.add (z := v1 338 4 + 1) rfl (by omega) (by omega) ?_
                          refine e_Ok.ast rfl (el_o rfl) rfl rfl (by omega) ?_
                          generalize hw80 : e_up w76 338 4 (v1 338 4 + 1) = w80
                          have f81 : e_fr mRsv w w80 := e_fr.up f77 hw80 (by unfold mRsv; omega)
                          have hH82 : e_Has hTy w80 := e_Has.ups hH78 hw80 rfl
                          have hT83 : e_Has mTy w80 := e_Has.upr hT79 hw80 rfl (by omega)
                          refine e_Ok.run (t' := (199, [(3, (0, 0)), (2, (0, w 341 y1)), (0, (1, 275)), (1, (0, y1))], [(0, 0)], w80)) 2 rfl ?_
                          refine e_Ok.if1 rfl (fun h84 => ?_) (fun h84 => ?_)
                          · replace h84 : (0 : Int) = 0 := h84
                            refine e_Ok.inc (z := y1 + 1) rfl rfl (by omega) (by omega) ?_
                            show e_Ok 20 elay ecode eI (d + 1) 356 (220, [(1, (0, y1 + 1)), (3, (0, 0)), (2, (0, w 341 y1)), (0, (1, 275))], [], w80) _
                            refine e_Ok.run (t' := (2, [(1, (0, y1 + 1)), (3, (0, 0)), (2, (0, w 341 y1)), (0, (1, 275))], [], w80)) 1 rfl ?_
                            refine e_Ok.sub eAlk (e_sub_of rfl ?_) (ih2 (y1 + 1) w80 ⟨f81, hT83, hH82, by omega, (Hid.mk (fun z => RS.rou hRS (by omega) (by omega) (show w80 338 4 = v1 338 4 + 1 from (by rw [← hw80]; exact e_up_eq _ _ _ _)) (show w80 337 (v1 338 4 + 128) = w 344 y1 from (by rw [← hw80]; exact (e_up_ne _ _ (Or.inl (by omega))).trans (by rw [← hw76]; exact e_up_eq _ _ _ _))) (by omega) (fun c k y => Eq.trans (show w80 c k = w76 c k from by rw [← hw80]; exact e_up_ne _ _ (by omega)) (by rw [← hw76]; exact e_up_ne _ _ (by omega)))))⟩ (by omega))
                            exact ⟨rfl, rfl, trivial⟩
                          · replace h84 : (0 : Int) ≠ 0 := by have q : ¬ ((0 : Int) = 0) := h84; omega
                            exfalso; omega
                      · replace h74 : (w 341 y1 : Int) = 0 := by have q : ¬ ((w 341 y1 : Int) ≠ 0) := h74; omega
                        exfalso; omega
                  · replace h72 : (v1 338 4 : Int) = 32 := by have q : ¬ ((v1 338 4 : Int) ≠ 32) := h72; omega
                    refine e_Ok.run (t' := (87, [(3, (0, 7)), (2, (0, w 341 y1)), (0, (1, 275)), (1, (0, y1))], [(0, 7)], v1)) 4 rfl ?_
                    refine e_Ok.if1 rfl (fun h85 => ?_) (fun h85 => ?_)
                    · replace h85 : (7 : Int) ≠ 0 := h85
                      refine e_Ok.run (t' := (108, [(3, (0, 7)), (2, (0, w 341 y1)), (0, (1, 275)), (1, (0, y1))], [(0, 7)], v1)) 1 rfl ?_
                      refine e_Ok.if1 rfl (fun h86 => ?_) (fun h86 => ?_)
                      · replace h86 : (7 : Int) ≠ 0 := h86
                        refine e_Ok.run (t' := (199, [(3, (0, 7)), (2, (0, w 341 y1)), (0, (1, 275)), (1, (0, y1))], [(0, 7)], v1)) 1 rfl ?_
                        refine e_Ok.if1 rfl (fun h87 => ?_) (fun h87 => ?_)
                        · replace h87 : (7 : Int) = 0 := h87
                          exfalso; omega
                        · replace h87 : (7 : Int) ≠ 0 := by have q : ¬ ((7 : Int) = 0) := h87; omega
                          refine e_Ok.run (t' := (204, [(3, (0, 7)), (2, (0, w 341 y1)), (0, (1, 275)), (1, (0, y1))], [(0, 7), (1, 275)], v1)) 2 rfl ?_
                          refine e_Ok.putf rfl (el_o rfl) rfl rfl ?_
                          generalize hw88 : e_up v1 275 88 7 = w88
                          have f89 : e_fr mRsv w w88 := e_fr.up j3 hw88 (by unfold mRsv; omega)
                          have hH90 : e_Has hTy w88 := e_Has.upr j5 hw88 rfl (by omega)
                          have hT91 : e_Has mTy w88 := e_Has.ups j4 hw88 rfl
                          refine e_Ok.run (t' := (209, [(3, (0, 7)), (2, (0, w 341 y1)), (0, (1, 275)), (1, (0, y1))], [(1, 275), (1, 275)], w88)) 2 rfl ?_
                          refine e_Ok.getr (z := 342) rfl (el_o rfl) rfl rfl (by rw [← hw88]; exact (e_up_ne _ _ (Or.inr (by omega))).trans ((j3 275 91 (by unfold mRsv; omega)).trans (e_Has.eq hT rfl))) (by omega) ?_
                          refine e_Ok.run (t' := (213, [(3, (0, 7)), (2, (0, w 341 y1)), (0, (1, 275)), (1, (0, y1))], [(0, y1), (1, 342), (1, 275)], w88)) 1 rfl ?_
                          refine e_Ok.ald (z := w 342 y1) rfl (el_o rfl) rfl (by omega) (by rw [← hw88]; exact (e_up_ne _ _ (Or.inl (by omega))).trans ((j3 342 y1 (by unfold mRsv; omega)).trans rfl)) (by omega) ?_
                          refine e_Ok.putf rfl (el_o rfl) rfl rfl ?_
                          generalize hw92 : e_up w88 275 89 (w 342 y1) = w92
                          have f93 : e_fr mRsv w w92 := e_fr.up f89 hw92 (by unfold mRsv; omega)
                          have hH94 : e_Has hTy w92 := e_Has.upr hH90 hw92 rfl (by omega)
                          have hT95 : e_Has mTy w92 := e_Has.ups hT91 hw92 rfl
                          refine e_Ok.inc (z := y1 + 1) rfl rfl (by omega) (by omega) ?_
                          show e_Ok 20 elay ecode eI (d + 1) 356 (220, [(1, (0, y1 + 1)), (3, (0, 7)), (2, (0, w 341 y1)), (0, (1, 275))], [], w92) _
                          refine e_Ok.run (t' := (2, [(1, (0, y1 + 1)), (3, (0, 7)), (2, (0, w 341 y1)), (0, (1, 275))], [], w92)) 1 rfl ?_
                          refine e_Ok.sub eAlk (e_sub_of rfl ?_) (ih2 (y1 + 1) w92 ⟨f93, hT95, hH94, by omega, (Hid.mk (fun z => absurd (Eq.trans (Eq.symm (show w92 275 88 = 7 from (by rw [← hw92]; exact (e_up_ne _ _ (Or.inr (by omega))).trans (by rw [← hw88]; exact e_up_eq _ _ _ _)))) z) (by decide)))⟩ (by omega))
                          exact ⟨rfl, rfl, trivial⟩
                      · replace h86 : (7 : Int) = 0 := by have q : ¬ ((7 : Int) ≠ 0) := h86; omega
                        exfalso; omega
                    · replace h85 : (7 : Int) = 0 := by have q : ¬ ((7 : Int) ≠ 0) := h85; omega
                      exfalso; omega
                · replace h70 : (w 341 y1 : Int) = 0 := by have q : ¬ ((w 341 y1 : Int) ≠ 0) := h70; omega
                  refine e_Ok.run (t' := (60, [(3, (0, 0)), (2, (0, w 341 y1)), (0, (1, 275)), (1, (0, y1))], [(1, 275)], v1)) 1 rfl ?_
                  refine e_Ok.getr (z := 339) rfl (el_o rfl) rfl rfl ((j3 275 76 (by unfold mRsv; omega)).trans (e_Has.eq hT rfl)) (by omega) ?_
                  refine e_Ok.run (t' := (64, [(3, (0, 0)), (2, (0, w 341 y1)), (0, (1, 275)), (1, (0, y1))], [(0, 4), (1, 339)], v1)) 1 rfl ?_
                  have h101 := (e_Has.get j4 (c := 339) (k := 4) (lo := 0) (hi := 32) rfl (by decide))
                  refine e_Ok.ald (z := v1 339 4) rfl (el_o rfl) rfl (by omega) rfl (by omega) ?_
                  refine e_Ok.run (t' := (76, [(3, (0, 0)), (2, (0, w 341 y1)), (0, (1, 275)), (1, (0, y1))], [(0, 32), (0, v1 339 4)], v1)) 2 rfl ?_
                  refine e_Ok.if2 rfl (fun h103 => ?_) (fun h103 => ?_)
                  · replace h103 : (v1 339 4 : Int) ≠ 32 := h103
                    refine e_Ok.run (t' := (87, [(3, (0, 0)), (2, (0, w 341 y1)), (0, (1, 275)), (1, (0, y1))], [(0, 0)], v1)) 3 rfl ?_
                    refine e_Ok.if1 rfl (fun h104 => ?_) (fun h104 => ?_)
                    · replace h104 : (0 : Int) ≠ 0 := h104
                      exfalso; omega
                    · replace h104 : (0 : Int) = 0 := by have q : ¬ ((0 : Int) ≠ 0) := h104; omega
                      refine e_Ok.run (t' := (91, [(3, (0, 0)), (2, (0, w 341 y1)), (0, (1, 275)), (1, (0, y1))], [(0, w 341 y1)], v1)) 1 rfl ?_
                      refine e_Ok.if1 rfl (fun h105 => ?_) (fun h105 => ?_)
                      · replace h105 : (w 341 y1 : Int) ≠ 0 := h105
                        exfalso; omega
                      · replace h105 : (w 341 y1 : Int) = 0 := by have q : ¬ ((w 341 y1 : Int) ≠ 0) := h105; omega
                        refine e_Ok.run (t' := (95, [(3, (0, 0)), (2, (0, w 341 y1)), (0, (1, 275)), (1, (0, y1))], [(1, 275)], v1)) 1 rfl ?_
                        refine e_Ok.getr (z := 339) rfl (el_o rfl) rfl rfl ((j3 275 76 (by unfold mRsv; omega)).trans (e_Has.eq hT rfl)) (by omega) ?_
                        refine e_Ok.run (t' := (100, [(3, (0, 0)), (2, (0, w 341 y1)), (0, (1, 275)), (1, (0, y1))], [(0, 4), (1, 339), (0, 4), (1, 339)], v1)) 2 rfl ?_
                        refine e_Ok.ald (z := v1 339 4) rfl (el_o rfl) rfl (by omega) rfl (by omega) ?_
                        refine e_Ok.run (t' := (102, [(3, (0, 0)), (2, (0, w 341 y1)), (0, (1, 275)), (1, (0, y1))], [(0, 1), (0, v1 339 4), (0, 4), (1, 339)], v1)) 1 rfl ?_
                        refine e_Ok.add (z := v1 339 4 + 1) rfl (by omega) (by omega) ?_
                        refine e_Ok.ast rfl (el_o rfl) rfl rfl (by omega) ?_
                        generalize hw106 : e_up v1 339 4 (v1 339 4 + 1) = w106
                        have f107 : e_fr mRsv w w106 := e_fr.up j3 hw106 (by unfold mRsv; omega)
                        have hH108 : e_Has hTy w106 := e_Has.ups j5 hw106 rfl
                        have hT109 : e_Has mTy w106 := e_Has.upr j4 hw106 rfl (by omega)
                        refine e_Ok.run (t' := (199, [(3, (0, 0)), (2, (0, w 341 y1)), (0, (1, 275)), (1, (0, y1))], [(0, 0)], w106)) 2 rfl ?_
                        refine e_Ok.if1 rfl (fun h110 => ?_) (fun h110 => ?_)
                        · replace h110 : (0 : Int) = 0 := h110
                          refine e_Ok.inc (z := y1 + 1) rfl rfl (by omega) (by omega) ?_
                          show e_Ok 20 elay ecode eI (d + 1) 356 (220, [(1, (0, y1 + 1)), (3, (0, 0)), (2, (0, w 341 y1)), (0, (1, 275))], [], w106) _
                          refine e_Ok.run (t' := (2, [(1, (0, y1 + 1)), (3, (0, 0)), (2, (0, w 341 y1)), (0, (1, 275))], [], w106)) 1 rfl ?_
                          refine e_Ok.sub eAlk (e_sub_of rfl ?_) (ih2 (y1 + 1) w106 ⟨f107, hT109, hH108, by omega, (Hid.mk (fun z => RS.var hRS (by omega) (by omega) (show w106 339 4 = v1 339 4 + 1 from (by rw [← hw106]; exact e_up_eq _ _ _ _)) (by omega) (fun c k y => by rw [← hw106]; exact e_up_ne _ _ (Or.inl (by omega)))))⟩ (by omega))
                          exact ⟨rfl, rfl, trivial⟩
                        · replace h110 : (0 : Int) ≠ 0 := by have q : ¬ ((0 : Int) = 0) := h110; omega
                          exfalso; omega
                  · replace h103 : (v1 339 4 : Int) = 32 := by have q : ¬ ((v1 339 4 : Int) ≠ 32) := h103; omega
                    refine e_Ok.run (t' := (87, [(3, (0, 7)), (2, (0, w 341 y1)), (0, (1, 275)), (1, (0, y1))], [(0, 7)], v1)) 4 rfl ?_
                    refine e_Ok.if1 rfl (fun h111 => ?_) (fun h111 => ?_)
                    · replace h111 : (7 : Int) ≠ 0 := h111
                      refine e_Ok.run (t' := (108, [(3, (0, 7)), (2, (0, w 341 y1)), (0, (1, 275)), (1, (0, y1))], [(0, 7)], v1)) 1 rfl ?_
                      refine e_Ok.if1 rfl (fun h112 => ?_) (fun h112 => ?_)
                      · replace h112 : (7 : Int) ≠ 0 := h112
                        refine e_Ok.run (t' := (199, [(3, (0, 7)), (2, (0, w 341 y1)), (0, (1, 275)), (1, (0, y1))], [(0, 7)], v1)) 1 rfl ?_
                        refine e_Ok.if1 rfl (fun h113 => ?_) (fun h113 => ?_)
                        · replace h113 : (7 : Int) = 0 := h113
                          exfalso; omega
                        · replace h113 : (7 : Int) ≠ 0 := by have q : ¬ ((7 : Int) = 0) := h113; omega
                          refine e_Ok.run (t' := (204, [(3, (0, 7)), (2, (0, w 341 y1)), (0, (1, 275)), (1, (0, y1))], [(0, 7), (1, 275)], v1)) 2 rfl ?_
                          refine e_Ok.putf rfl (el_o rfl) rfl rfl ?_
                          generalize hw114 : e_up v1 275 88 7 = w114
                          have f115 : e_fr mRsv w w114 := e_fr.up j3 hw114 (by unfold mRsv; omega)
                          have hH116 : e_Has hTy w114 := e_Has.upr j5 hw114 rfl (by omega)
                          have hT117 : e_Has mTy w114 := e_Has.ups j4 hw114 rfl
                          refine e_Ok.run (t' := (209, [(3, (0, 7)), (2, (0, w 341 y1)), (0, (1, 275)), (1, (0, y1))], [(1, 275), (1, 275)], w114)) 2 rfl ?_
                          refine e_Ok.getr (z := 342) rfl (el_o rfl) rfl rfl (by rw [← hw114]; exact (e_up_ne _ _ (Or.inr (by omega))).trans ((j3 275 91 (by unfold mRsv; omega)).trans (e_Has.eq hT rfl))) (by omega) ?_
                          refine e_Ok.run (t' := (213, [(3, (0, 7)), (2, (0, w 341 y1)), (0, (1, 275)), (1, (0, y1))], [(0, y1), (1, 342), (1, 275)], w114)) 1 rfl ?_
                          refine e_Ok.ald (z := w 342 y1) rfl (el_o rfl) rfl (by omega) (by rw [← hw114]; exact (e_up_ne _ _ (Or.inl (by omega))).trans ((j3 342 y1 (by unfold mRsv; omega)).trans rfl)) (by omega) ?_
                          refine e_Ok.putf rfl (el_o rfl) rfl rfl ?_
                          generalize hw118 : e_up w114 275 89 (w 342 y1) = w118
                          have f119 : e_fr mRsv w w118 := e_fr.up f115 hw118 (by unfold mRsv; omega)
                          have hH120 : e_Has hTy w118 := e_Has.upr hH116 hw118 rfl (by omega)
                          have hT121 : e_Has mTy w118 := e_Has.ups hT117 hw118 rfl
                          refine e_Ok.inc (z := y1 + 1) rfl rfl (by omega) (by omega) ?_
                          show e_Ok 20 elay ecode eI (d + 1) 356 (220, [(1, (0, y1 + 1)), (3, (0, 7)), (2, (0, w 341 y1)), (0, (1, 275))], [], w118) _
                          refine e_Ok.run (t' := (2, [(1, (0, y1 + 1)), (3, (0, 7)), (2, (0, w 341 y1)), (0, (1, 275))], [], w118)) 1 rfl ?_
                          refine e_Ok.sub eAlk (e_sub_of rfl ?_) (ih2 (y1 + 1) w118 ⟨f119, hT121, hH120, by omega, (Hid.mk (fun z => absurd (Eq.trans (Eq.symm (show w118 275 88 = 7 from (by rw [← hw118]; exact (e_up_ne _ _ (Or.inr (by omega))).trans (by rw [← hw114]; exact e_up_eq _ _ _ _)))) z) (by decide)))⟩ (by omega))
                          exact ⟨rfl, rfl, trivial⟩
                      · replace h112 : (7 : Int) = 0 := by have q : ¬ ((7 : Int) ≠ 0) := h112; omega
                        exfalso; omega
                    · replace h111 : (7 : Int) = 0 := by have q : ¬ ((7 : Int) ≠ 0) := h111; omega
                      exfalso; omega
              · replace h69 : (z67 : Int) ≥ 0 := by have q : ¬ ((z67 : Int) < 0) := h69; omega
                refine e_Ok.run (t' := (87, [(3, (0, 4)), (2, (0, w 341 y1)), (0, (1, 275)), (1, (0, y1))], [(0, 4)], v1)) 4 rfl ?_
                refine e_Ok.if1 rfl (fun h122 => ?_) (fun h122 => ?_)
                · replace h122 : (4 : Int) ≠ 0 := h122
                  refine e_Ok.run (t' := (108, [(3, (0, 4)), (2, (0, w 341 y1)), (0, (1, 275)), (1, (0, y1))], [(0, 4)], v1)) 1 rfl ?_
                  refine e_Ok.if1 rfl (fun h123 => ?_) (fun h123 => ?_)
                  · replace h123 : (4 : Int) ≠ 0 := h123
                    refine e_Ok.run (t' := (199, [(3, (0, 4)), (2, (0, w 341 y1)), (0, (1, 275)), (1, (0, y1))], [(0, 4)], v1)) 1 rfl ?_
                    refine e_Ok.if1 rfl (fun h124 => ?_) (fun h124 => ?_)
                    · replace h124 : (4 : Int) = 0 := h124
                      exfalso; omega
                    · replace h124 : (4 : Int) ≠ 0 := by have q : ¬ ((4 : Int) = 0) := h124; omega
                      refine e_Ok.run (t' := (204, [(3, (0, 4)), (2, (0, w 341 y1)), (0, (1, 275)), (1, (0, y1))], [(0, 4), (1, 275)], v1)) 2 rfl ?_
                      refine e_Ok.putf rfl (el_o rfl) rfl rfl ?_
                      generalize hw125 : e_up v1 275 88 4 = w125
                      have f126 : e_fr mRsv w w125 := e_fr.up j3 hw125 (by unfold mRsv; omega)
                      have hH127 : e_Has hTy w125 := e_Has.upr j5 hw125 rfl (by omega)
                      have hT128 : e_Has mTy w125 := e_Has.ups j4 hw125 rfl
                      refine e_Ok.run (t' := (209, [(3, (0, 4)), (2, (0, w 341 y1)), (0, (1, 275)), (1, (0, y1))], [(1, 275), (1, 275)], w125)) 2 rfl ?_
                      refine e_Ok.getr (z := 342) rfl (el_o rfl) rfl rfl (by rw [← hw125]; exact (e_up_ne _ _ (Or.inr (by omega))).trans ((j3 275 91 (by unfold mRsv; omega)).trans (e_Has.eq hT rfl))) (by omega) ?_
                      refine e_Ok.run (t' := (213, [(3, (0, 4)), (2, (0, w 341 y1)), (0, (1, 275)), (1, (0, y1))], [(0, y1), (1, 342), (1, 275)], w125)) 1 rfl ?_
                      refine e_Ok.ald (z := w 342 y1) rfl (el_o rfl) rfl (by omega) (by rw [← hw125]; exact (e_up_ne _ _ (Or.inl (by omega))).trans ((j3 342 y1 (by unfold mRsv; omega)).trans rfl)) (by omega) ?_
                      refine e_Ok.putf rfl (el_o rfl) rfl rfl ?_
                      generalize hw129 : e_up w125 275 89 (w 342 y1) = w129
                      have f130 : e_fr mRsv w w129 := e_fr.up f126 hw129 (by unfold mRsv; omega)
                      have hH131 : e_Has hTy w129 := e_Has.upr hH127 hw129 rfl (by omega)
                      have hT132 : e_Has mTy w129 := e_Has.ups hT128 hw129 rfl
                      refine e_Ok.inc (z := y1 + 1) rfl rfl (by omega) (by omega) ?_
                      show e_Ok 20 elay ecode eI (d + 1) 356 (220, [(1, (0, y1 + 1)), (3, (0, 4)), (2, (0, w 341 y1)), (0, (1, 275))], [], w129) _
                      refine e_Ok.run (t' := (2, [(1, (0, y1 + 1)), (3, (0, 4)), (2, (0, w 341 y1)), (0, (1, 275))], [], w129)) 1 rfl ?_
                      refine e_Ok.sub eAlk (e_sub_of rfl ?_) (ih2 (y1 + 1) w129 ⟨f130, hT132, hH131, by omega, (Hid.mk (fun z => absurd (Eq.trans (Eq.symm (show w129 275 88 = 4 from (by rw [← hw129]; exact (e_up_ne _ _ (Or.inr (by omega))).trans (by rw [← hw125]; exact e_up_eq _ _ _ _)))) z) (by decide)))⟩ (by omega))
                      exact ⟨rfl, rfl, trivial⟩
                  · replace h123 : (4 : Int) = 0 := by have q : ¬ ((4 : Int) ≠ 0) := h123; omega
                    exfalso; omega
                · replace h122 : (4 : Int) = 0 := by have q : ¬ ((4 : Int) ≠ 0) := h122; omega
                  exfalso; omega
  refine e_Ok.sub eAlk (e_sub_of rfl ?_) (hL1 (4100 + 1 : Int).toNat 0 w ⟨(e_fr.refl w), hT, hH, by omega, (Hid.mk (fun _ => RS.zero n mm h9 h8))⟩ (by omega))
  exact ⟨rfl, rfl, trivial⟩
end
