noncomputable section
theorem wfE.d {w : eW} {N n mm nt s d d' : Int} {P : Int → Prop} (h : wfE w N n mm nt P s d) (e : d = d') : wfE w N n mm nt P s d' := e ▸ h
theorem Hid.mk {p : Prop} (h : p) : Hid p := h
theorem tkS.lin {w : eW} {N : Int} (h : tkS w N) : (0 ≤ w 275 86 ∧ w 275 86 ≤ w 275 87 ∧ w 275 87 ≤ N) ∧ (0 ≤ w 275 84 ∧ w 275 84 ≤ 5) ∧ -2147483648 ≤ w 275 85 ∧ w 275 85 ≤ 2147483647 := ⟨h.1, h.2.1, h.2.2.2.2.2⟩
theorem tkS.pos {w : eW} {N : Int} (h : tkS w N) (hk : w 275 84 ≠ 0) : w 275 86 < w 275 87 := h.2.2.2.1 hk
theorem tkS.key {w : eW} {N : Int} (h : tkS w N) (hk : w 275 84 = 4) : w 275 86 + 2 ≤ w 275 87 ∧ 0 ≤ w 275 85 ∧ w 275 85 ≤ 32 := h.2.2.2.2.1 hk
theorem c_346_0 {d : Nat} (hd : 23 ≤ d) {w : eW} {N : Int} (hc : cSt w N) (hf : w 275 88 ≠ 0) : e_Ok 20 elay ecode eI d 346 (0, [(0, (1, 275))], [], w) (fun r w' => r = [] ∧ w = w') := by
  obtain ⟨d, rfl⟩ : ∃ e, d = e + 1 := ⟨d - 1, by omega⟩
  have hct := tkS.lin hc.2.2.2.1
  have hcf := e_Has.get hc.2.1 (c := 275) (k := 88) (lo := 0) (hi := 7) rfl (by decide)
  refine e_Ok.run (t' := (1, [(0, (1, 275))], [(1, 275)], w)) 1 rfl ?_
  refine e_Ok.getf (z := w 275 88) rfl (el_o rfl) rfl rfl rfl (by omega) ?_
  refine e_Ok.if1 rfl (fun h1 => ?_) (fun h1 => ?_)
  · replace h1 : (w 275 88 : Int) = 0 := h1
    exfalso; omega
  · replace h1 : (w 275 88 : Int) ≠ 0 := by have q : ¬ ((w 275 88 : Int) = 0) := h1; omega
    refine e_Ok.rets rfl rfl ?_
    exact ⟨rfl, rfl⟩
theorem c_344_0 {d : Nat} (hd : 24 ≤ d) {w : eW} {N : Int} (hc : cSt w N) (hf : w 275 88 ≠ 0) : e_Ok 20 elay ecode eI d 344 (0, [(0, (1, 275))], [], w) (fun r w' => r = [] ∧ w = w') := by
  obtain ⟨d, rfl⟩ : ∃ e, d = e + 1 := ⟨d - 1, by omega⟩
  have hct := tkS.lin hc.2.2.2.1
  have hcf := e_Has.get hc.2.1 (c := 275) (k := 88) (lo := 0) (hi := 7) rfl (by decide)
  refine e_Ok.run (t' := (1, [(0, (1, 275))], [(1, 275)], w)) 1 rfl ?_
  refine e_Ok.callV rfl (by omega) rfl rfl rfl rfl (c_346_0 (by omega) hc hf) (fun r1 w2 h3 => ?_)
  obtain ⟨rfl, rfl⟩ := h3
  show e_Ok 20 elay ecode eI (d + 1) 344 (4, [(0, (1, 275))], [], w) _
  refine e_Ok.run (t' := (5, [(0, (1, 275))], [(1, 275)], w)) 1 rfl ?_
  refine e_Ok.getf (z := w 275 88) rfl (el_o rfl) rfl rfl rfl (by omega) ?_
  refine e_Ok.if1 rfl (fun h4 => ?_) (fun h4 => ?_)
  · replace h4 : (w 275 88 : Int) ≠ 0 := h4
    refine e_Ok.rets rfl rfl ?_
    exact ⟨rfl, rfl⟩
  · replace h4 : (w 275 88 : Int) = 0 := by have q : ¬ ((w 275 88 : Int) ≠ 0) := h4; omega
    exfalso; omega
theorem c_343_0 {d : Nat} (hd : 25 ≤ d) {w : eW} {N : Int} (hc : cSt w N) (hf : w 275 88 ≠ 0) : e_Ok 20 elay ecode eI d 343 (0, [(0, (1, 275))], [], w) (fun r w' => r = [] ∧ w = w') := by
  obtain ⟨d, rfl⟩ : ∃ e, d = e + 1 := ⟨d - 1, by omega⟩
  have hct := tkS.lin hc.2.2.2.1
  have hcf := e_Has.get hc.2.1 (c := 275) (k := 88) (lo := 0) (hi := 7) rfl (by decide)
  refine e_Ok.run (t' := (1, [(0, (1, 275))], [(1, 275)], w)) 1 rfl ?_
  refine e_Ok.callV rfl (by omega) rfl rfl rfl rfl (c_344_0 (by omega) hc hf) (fun r1 w2 h3 => ?_)
  obtain ⟨rfl, rfl⟩ := h3
  show e_Ok 20 elay ecode eI (d + 1) 343 (4, [(0, (1, 275))], [], w) _
  refine e_Ok.run (t' := (5, [(0, (1, 275))], [(1, 275)], w)) 1 rfl ?_
  refine e_Ok.getf (z := w 275 88) rfl (el_o rfl) rfl rfl rfl (by omega) ?_
  refine e_Ok.if1 rfl (fun h4 => ?_) (fun h4 => ?_)
  · replace h4 : (w 275 88 : Int) ≠ 0 := h4
    refine e_Ok.rets rfl rfl ?_
    exact ⟨rfl, rfl⟩
  · replace h4 : (w 275 88 : Int) = 0 := by have q : ¬ ((w 275 88 : Int) ≠ 0) := h4; omega
    exfalso; omega
theorem c_342_0 {d : Nat} (hd : 26 ≤ d) {w : eW} {N : Int} (hc : cSt w N) (hf : w 275 88 ≠ 0) : e_Ok 20 elay ecode eI d 342 (0, [(0, (1, 275))], [], w) (fun r w' => r = [] ∧ w = w') := by
  obtain ⟨d, rfl⟩ : ∃ e, d = e + 1 := ⟨d - 1, by omega⟩
  have hct := tkS.lin hc.2.2.2.1
  have hcf := e_Has.get hc.2.1 (c := 275) (k := 88) (lo := 0) (hi := 7) rfl (by decide)
  refine e_Ok.run (t' := (1, [(0, (1, 275))], [(1, 275)], w)) 1 rfl ?_
  refine e_Ok.getf (z := w 275 88) rfl (el_o rfl) rfl rfl rfl (by omega) ?_
  refine e_Ok.if1 rfl (fun h1 => ?_) (fun h1 => ?_)
  · replace h1 : (w 275 88 : Int) ≠ 0 := h1
    refine e_Ok.run (t' := (48, [(0, (1, 275))], [(1, 275)], w)) 1 rfl ?_
    refine e_Ok.callV rfl (by omega) rfl rfl rfl rfl (c_343_0 (by omega) hc hf) (fun r2 w3 h4 => ?_)
    obtain ⟨rfl, rfl⟩ := h4
    show e_Ok 20 elay ecode eI (d + 1) 342 (51, [(0, (1, 275))], [], w) _
    refine e_Ok.run (t' := (52, [(0, (1, 275))], [(1, 275)], w)) 1 rfl ?_
    refine e_Ok.getf (z := w 275 88) rfl (el_o rfl) rfl rfl rfl (by omega) ?_
    refine e_Ok.if1 rfl (fun h5 => ?_) (fun h5 => ?_)
    · replace h5 : (w 275 88 : Int) ≠ 0 := h5
      refine e_Ok.run (t' := (157, [(1, (0, 0)), (0, (1, 275))], [(0, 0)], w)) 4 rfl ?_
      refine e_Ok.if1 rfl (fun h6 => ?_) (fun h6 => ?_)
      · replace h6 : (0 : Int) = 0 := h6
        refine e_Ok.rets rfl rfl ?_
        exact ⟨rfl, rfl⟩
      · replace h6 : (0 : Int) ≠ 0 := by have q : ¬ ((0 : Int) = 0) := h6; omega
        exfalso; omega
    · replace h5 : (w 275 88 : Int) = 0 := by have q : ¬ ((w 275 88 : Int) ≠ 0) := h5; omega
      exfalso; omega
  · replace h1 : (w 275 88 : Int) = 0 := by have q : ¬ ((w 275 88 : Int) ≠ 0) := h1; omega
    exfalso; omega
theorem c_341_n {d : Nat} (hd : 22 ≤ d) {w : eW} (hT : e_Has mTy w) : e_Ok 20 elay ecode eI d 341 (0, [(0, (1, 275)), (1, (0, (-1)))], [], w) (fun r w' => r = [] ∧ w = w') := by
  obtain ⟨d, rfl⟩ : ∃ e, d = e + 1 := ⟨d - 1, by omega⟩
  refine e_Ok.run (t' := (1, [(0, (1, 275)), (1, (0, (-1)))], [(0, (-1))], w)) 1 rfl ?_
  refine e_Ok.if1 rfl (fun h1 => ?_) (fun h1 => ?_)
  · replace h1 : ((-1) : Int) ≥ 0 := h1
    exfalso; omega
  · replace h1 : ((-1) : Int) < 0 := by have q : ¬ (((-1) : Int) ≥ 0) := h1; omega
    refine e_Ok.rets rfl rfl ?_
    exact ⟨rfl, rfl⟩
theorem c_340_0 {d : Nat} (hd : 27 ≤ d) {w : eW} {N : Int} (hc : cSt w N) (hf : w 275 88 ≠ 0) : e_Ok 20 elay ecode eI d 340 (0, [(0, (1, 275))], [], w) (fun r w' => r = [] ∧ w = w') := by
  obtain ⟨d, rfl⟩ : ∃ e, d = e + 1 := ⟨d - 1, by omega⟩
  have hct := tkS.lin hc.2.2.2.1
  have hcf := e_Has.get hc.2.1 (c := 275) (k := 88) (lo := 0) (hi := 7) rfl (by decide)
  refine e_Ok.run (t' := (1, [(0, (1, 275))], [(1, 275)], w)) 1 rfl ?_
  refine e_Ok.callV rfl (by omega) rfl rfl rfl rfl (c_342_0 (by omega) hc hf) (fun r1 w2 h3 => ?_)
  obtain ⟨rfl, rfl⟩ := h3
  show e_Ok 20 elay ecode eI (d + 1) 340 (4, [(0, (1, 275))], [], w) _
  refine e_Ok.run (t' := (7, [(1, (0, (-1))), (0, (1, 275))], [(1, 275)], w)) 3 rfl ?_
  refine e_Ok.getf (z := w 275 88) rfl (el_o rfl) rfl rfl rfl (by omega) ?_
  refine e_Ok.if1 rfl (fun h4 => ?_) (fun h4 => ?_)
  · replace h4 : (w 275 88 : Int) ≠ 0 := h4
    refine e_Ok.run (t' := (43, [(1, (0, (-1))), (0, (1, 275))], [(0, (-1)), (1, 275)], w)) 2 rfl ?_
    refine e_Ok.callV rfl (by omega) rfl rfl rfl rfl (c_341_n (by omega) hc.1) (fun r5 w6 h7 => ?_)
    obtain ⟨rfl, rfl⟩ := h7
    show e_Ok 20 elay ecode eI (d + 1) 340 (46, [(1, (0, (-1))), (0, (1, 275))], [], w) _
    refine e_Ok.rets rfl rfl ?_
    exact ⟨rfl, rfl⟩
  · replace h4 : (w 275 88 : Int) = 0 := by have q : ¬ ((w 275 88 : Int) ≠ 0) := h4; omega
    exfalso; omega
theorem c_339_0 {d : Nat} (hd : 28 ≤ d) {w : eW} {N : Int} (hc : cSt w N) (hf : w 275 88 ≠ 0) : e_Ok 20 elay ecode eI d 339 (0, [(0, (1, 275))], [], w) (fun r w' => r = [] ∧ w = w') := by
  obtain ⟨d, rfl⟩ : ∃ e, d = e + 1 := ⟨d - 1, by omega⟩
  have hct := tkS.lin hc.2.2.2.1
  have hcf := e_Has.get hc.2.1 (c := 275) (k := 88) (lo := 0) (hi := 7) rfl (by decide)
  refine e_Ok.run (t' := (1, [(0, (1, 275))], [(1, 275)], w)) 1 rfl ?_
  refine e_Ok.callV rfl (by omega) rfl rfl rfl rfl (c_340_0 (by omega) hc hf) (fun r1 w2 h3 => ?_)
  obtain ⟨rfl, rfl⟩ := h3
  show e_Ok 20 elay ecode eI (d + 1) 339 (4, [(0, (1, 275))], [], w) _
  refine e_Ok.run (t' := (7, [(1, (0, (-1))), (0, (1, 275))], [(1, 275)], w)) 3 rfl ?_
  refine e_Ok.getf (z := w 275 88) rfl (el_o rfl) rfl rfl rfl (by omega) ?_
  refine e_Ok.if1 rfl (fun h4 => ?_) (fun h4 => ?_)
  · replace h4 : (w 275 88 : Int) ≠ 0 := h4
    refine e_Ok.run (t' := (43, [(1, (0, (-1))), (0, (1, 275))], [(0, (-1)), (1, 275)], w)) 2 rfl ?_
    refine e_Ok.callV rfl (by omega) rfl rfl rfl rfl (c_341_n (by omega) hc.1) (fun r5 w6 h7 => ?_)
    obtain ⟨rfl, rfl⟩ := h7
    show e_Ok 20 elay ecode eI (d + 1) 339 (46, [(1, (0, (-1))), (0, (1, 275))], [], w) _
    refine e_Ok.rets rfl rfl ?_
    exact ⟨rfl, rfl⟩
  · replace h4 : (w 275 88 : Int) = 0 := by have q : ¬ ((w 275 88 : Int) ≠ 0) := h4; omega
    exfalso; omega
set_option maxHeartbeats 4000000 in
theorem c_341 {d : Nat} (hd : 22 ≤ d) {w : eW} (hT : e_Has mTy w) {n s c : Int} {Q : Int → Prop} (hn : w 275 78 = n) (hnr : 0 ≤ n ∧ n ≤ 9900) (hs : w 275 81 = s) (hsr : -2147483648 ≤ s ∧ s ≤ 2147483647) (hcr : -1 ≤ c ∧ c ≤ 9900) (hQ : CHN w n c Q) : e_Ok 20 elay ecode eI d 341 (0, [(0, (1, 275)), (1, (0, c))], [], w) (fun r w' => r = [] ∧ ((w = w' ∧ c < 0) ∨ (0 ≤ c ∧ ∃ w1, EM w w1 n 24 0 s ∧ e_Has mTy w' ∧ (∀ p, Q p → w' 329 (p + 40000) = n + 1) ∧ ∀ cc k, ¬ (cc = 329 ∧ ∃ p, Q p ∧ k = p + 40000) → w' cc k = w1 cc k))) := by
  obtain ⟨d, rfl⟩ : ∃ e, d = e + 1 := ⟨d - 1, by omega⟩
  refine e_Ok.run (t' := (1, [(0, (1, 275)), (1, (0, c))], [(0, c)], w)) 1 rfl ?_
  refine e_Ok.if1 rfl (fun h1 => ?_) (fun h1 => ?_)
  · replace h1 : (c : Int) ≥ 0 := h1
    refine e_Ok.run (t' := (9, [(0, (1, 275)), (1, (0, c))], [(0, 0), (0, 24), (1, 275)], w)) 3 rfl ?_
    refine e_Ok.callV rfl (by omega) rfl rfl rfl rfl (c_336 hT hn (by omega) hs (by omega)) (fun r2 w3 h4 => ?_)
    obtain ⟨rfl, q5⟩ := h4
    have q5T := EM.T hT q5 (by omega) (by omega) (by omega)
    show e_Ok 20 elay ecode eI (d + 1) 341 (12, [(0, (1, 275)), (1, (0, c))], [(0, n)], w3) _
    refine e_Ok.run (t' := (15, [(2, (0, c)), (0, (1, 275)), (1, (0, c))], [], w3)) 3 rfl ?_
    have hL6 : ∀ (nn : Nat) (y2 : Int) (v1 : eW), e_Has mTy v1 ∧ ((-1 ≤ y2 ∧ y2 < n)) ∧ (0 ≤ y2 → Q y2) ∧ (∀ p, Q p → y2 < p → v1 329 (p + 40000) = n + 1) ∧ (∀ cc k, ¬ (cc = 329 ∧ ∃ p, Q p ∧ y2 < p ∧ k = p + 40000) → v1 cc k = w3 cc k) → y2 + 1 < nn → e_Ok 20 elay ecode eI (d + 1) 341 (15, [(0, (1, 275)), (2, (0, y2))], [], v1) (fun r w' => r = [] ∧ ((w = w' ∧ c < 0) ∨ (0 ≤ c ∧ ∃ w1, EM w w1 n 24 0 s ∧ e_Has mTy w' ∧ (∀ p, Q p → w' 329 (p + 40000) = n + 1) ∧ ∀ cc k, ¬ (cc = 329 ∧ ∃ p, Q p ∧ k = p + 40000) → w' cc k = w1 cc k))) := by
      intro nn
      induction nn with
      | zero => intro y2 v1 hj hm; obtain ⟨j8, j9, j10, j11, j12⟩ := hj; exfalso; omega
      | succ nn ih7 =>
        intro y2 v1 hj hm
        obtain ⟨j8, j9, j10, j11, j12⟩ := hj
        refine e_Ok.run (t' := (16, [(0, (1, 275)), (2, (0, y2))], [(0, y2)], v1)) 1 rfl ?_
        refine e_Ok.if1 rfl (fun h13 => ?_) (fun h13 => ?_)
        · replace h13 : (y2 : Int) < 0 := h13
          refine e_Ok.rets rfl rfl ?_
          exact ⟨rfl, Or.inr ⟨by omega, _, q5, j8, fun p g => j11 p g (by have := hQ.2.2.1 p g; omega), fun cc k g => j12 cc k (fun ⟨z1, p, z2, _, z4⟩ => g ⟨z1, p, z2, z4⟩)⟩⟩
        · replace h13 : (y2 : Int) ≥ 0 := by have q : ¬ ((y2 : Int) < 0) := h13; omega
          refine e_Ok.run (t' := (20, [(0, (1, 275)), (2, (0, y2))], [(1, 275)], v1)) 1 rfl ?_
          refine e_Ok.getr (z := 329) rfl (el_o rfl) rfl rfl (e_Has.eq j8 rfl) (by omega) ?_
          refine e_Ok.run (t' := (27, [(0, (1, 275)), (2, (0, y2))], [(0, y2), (0, 40000), (1, 329)], v1)) 2 rfl ?_
          refine e_Ok.add (z := y2 + 40000) rfl (by omega) (by omega) ?_
          have h14 := (e_Has.get j8 (c := 329) (k := y2 + 40000) (lo := (-2147483648)) (hi := 2147483647) rfl (by decide))
          refine e_Ok.ald (z := v1 329 (y2 + 40000)) rfl (el_o rfl) rfl (by omega) rfl (by omega) ?_
          have hQy := j10 (by omega)
          have hb9 : v1 329 (y2 + 40000) = w 329 (y2 + 40000) := Eq.trans (j12 329 _ (fun q => by obtain ⟨-, p, -, q2, q3⟩ := q; omega)) (q5.1 329 _ (by omega))
          have hcq := hQ.2.2.2 y2 hQy
          rw [← hb9] at hcq
          refine e_Ok.run (t' := (32, [(3, (0, v1 329 (y2 + 40000))), (0, (1, 275)), (2, (0, y2))], [(0, y2), (1, 275)], v1)) 3 rfl ?_
          refine e_Ok.callV rfl (by omega) rfl rfl rfl rfl (c_337 j8 (n := n + 1) (Eq.trans (j12 275 78 (fun q => absurd q.1 (by decide))) q5.2.2.2.2) (by omega) (by omega)) (fun r15 w16 h17 => ?_)
          obtain ⟨rfl, q18⟩ := h17
          have q18T : e_Has mTy w16 := e_Has.upr j8 q18 rfl (by omega)
          show e_Ok 20 elay ecode eI (d + 1) 341 (35, [(3, (0, v1 329 (y2 + 40000))), (0, (1, 275)), (2, (0, y2))], [], w16) _
          refine e_Ok.run (t' := (15, [(2, (0, v1 329 (y2 + 40000))), (3, (0, v1 329 (y2 + 40000))), (0, (1, 275))], [], w16)) 3 rfl ?_
          refine e_Ok.sub eAlk (e_sub_of rfl ?_) (ih7 (v1 329 (y2 + 40000)) w16 ⟨q18T, (by rcases hcq with ⟨r1, -⟩ | ⟨r1, r2, -⟩; omega; have := hQ.2.2.1 _ r1; omega), (fun g => by rcases hcq with ⟨r1, -⟩ | ⟨r1, -, -⟩; omega; exact r1), (fun p g1 g2 => Decidable.byCases (p := p = y2) (fun e => by rw [e, ← q18]; exact e_up_eq _ _ _ _) (fun e => Eq.trans (show w16 329 (p + 40000) = v1 329 (p + 40000) from by rw [← q18]; exact e_up_ne _ _ (Or.inr (by omega))) (j11 p g1 (by rcases hcq with ⟨r1, r2⟩ | ⟨r1, r2, r3⟩; have := r2 p g1; omega; exact Decidable.byCases (p := p < y2) (fun e2 => by have := r3 p g1 e2; omega) (fun e2 => by omega))))), (fun cc k g => Decidable.byCases (p := cc = 329 ∧ k = y2 + 40000) (fun e => absurd ⟨e.1, y2, hQy, by rcases hcq with ⟨r1, -⟩ | ⟨-, r2, -⟩ <;> omega, e.2⟩ g) (fun e => Eq.trans (show w16 cc k = v1 cc k from by rw [← q18]; exact e_up_ne _ _ (by omega)) (j12 cc k (fun ⟨z1, p, z2, z3, z4⟩ => g ⟨z1, p, z2, by rcases hcq with ⟨r1, -⟩ | ⟨-, r2, -⟩ <;> omega, z4⟩))))⟩ (by omega))
          exact ⟨rfl, rfl, trivial⟩
    refine e_Ok.sub eAlk (e_sub_of rfl ?_) (hL6 (9902 + 1 : Int).toNat c w3 ⟨q5T, (by have h1 := hQ.1; have h2 := hQ.2.1; have h3 := hQ.2.2.1 c (h2 (by omega)); omega), hQ.2.1, (fun p g1 g2 => by have := hQ.2.2.1 p g1; omega), (fun cc k _ => rfl)⟩ (by omega))
    exact ⟨rfl, rfl, trivial⟩
  · replace h1 : (c : Int) < 0 := by have q : ¬ ((c : Int) ≥ 0) := h1; omega
    refine e_Ok.rets rfl rfl ?_
    exact ⟨rfl, Or.inl ⟨rfl, by omega⟩⟩
end
