noncomputable section
set_option maxHeartbeats 4000000 in
theorem c_435_r {d : Nat} (hd : 47 ≤ d) {w : eW} {G : Int → Gh} (hI : mInv w G) (hB : bkE w) (hE : w 276 5 ≤ 7000000) (h6 : w 275 6 = 1) {x a b c : Int} (g1 : -2147483648 ≤ x ∧ x ≤ 2147483647) (g2 : -2147483648 ≤ a ∧ a ≤ 2147483647) (g3 : -2147483648 ≤ b ∧ b ≤ 2147483647) (g4 : -2147483648 ≤ c ∧ c ≤ 2147483647) (hC : rowC w x a b c) : e_Ok 20 elay ecode eI d 435 (0, [(0, (1, 275)), (1, (0, x)), (2, (0, a)), (3, (0, b)), (4, (0, c))], [], w) (fun r w' => ∃ z : Int, r = [(0, z)] ∧ e_fr mBb w w' ∧ w' 275 118 = w 275 118 ∧ w' 275 6 = w 275 6 ∧ ∀ k, w' 276 k = rowF w x a b c k) := by
  obtain ⟨d, rfl⟩ : ∃ e, d = e + 1 := ⟨d - 1, by omega⟩
  have hx0 := hC.1
  refine e_Ok.run (t' := (1, [(0, (1, 275)), (1, (0, x)), (2, (0, a)), (3, (0, b)), (4, (0, c))], [(0, x)], w)) 1 rfl ?_
  have hs2 : ∀ x : Int, 0 ≤ x ∧ x ≤ 11 ∧ x ≠ 10 → (x = 0) ∨ (x = 1) ∨ (x = 2) ∨ (x = 3) ∨ (x = 4) ∨ (x = 5) ∨ (x = 6) ∨ (x = 7) ∨ (x = 8) ∨ (x = 9) ∨ (x = 11) := fun x h => by omega
  obtain h1 | h1 | h1 | h1 | h1 | h1 | h1 | h1 | h1 | h1 | h1 := hs2 (x) (by omega)
  · refine e_Ok.sw (tg := 60) rfl (by rw [h1]; rfl) ?_
    have hX : x = 0 := by omega
    refine e_Ok.run (t' := (63, [(0, (1, 275)), (1, (0, x)), (2, (0, a)), (3, (0, b)), (4, (0, c))], [(0, b), (0, a), (1, 275)], w)) 3 rfl ?_
    refine e_Ok.callV rfl (by omega) rfl rfl rfl rfl ((c_425 (by omega) hI hB hE (by omega) (by omega)).imp (fun _ _ h => again_of h6 (hC.2.1 hX) h)) (fun r3 w4 h5 => ?_)
    obtain ⟨z6, rfl, q7, q7s⟩ := h5
    show e_Ok 20 elay ecode eI (d + 1) 435 (66, [(0, (1, 275)), (1, (0, x)), (2, (0, a)), (3, (0, b)), (4, (0, c))], [(0, z6)], w4) _
    refine e_Ok.rets rfl rfl ?_
    exact ⟨_, rfl, (e_fr.mono q7 (fun _ _ g => Or.inl g)), q7 275 118 (by unfold mTi; omega), q7 275 6 (by unfold mTi; omega), fun k => by rw [q7s k, hX]; rfl⟩
  · refine e_Ok.sw (tg := 67) rfl (by rw [h1]; rfl) ?_
    have hX : x = 1 := by omega
    refine e_Ok.run (t' := (69, [(0, (1, 275)), (1, (0, x)), (2, (0, a)), (3, (0, b)), (4, (0, c))], [(0, a), (1, 275)], w)) 2 rfl ?_
    refine e_Ok.callV rfl (by omega) rfl rfl rfl rfl ((c_426 (by omega) hI hB hE (by omega)).imp (fun _ _ h => again_of h6 (hC.2.2.1 hX) h)) (fun r8 w9 h10 => ?_)
    obtain ⟨z11, rfl, q12, q12s⟩ := h10
    show e_Ok 20 elay ecode eI (d + 1) 435 (72, [(0, (1, 275)), (1, (0, x)), (2, (0, a)), (3, (0, b)), (4, (0, c))], [(0, z11)], w9) _
    refine e_Ok.rets rfl rfl ?_
    exact ⟨_, rfl, (e_fr.mono q12 (fun _ _ g => Or.inl g)), q12 275 118 (by unfold mTi; omega), q12 275 6 (by unfold mTi; omega), fun k => by rw [q12s k, hX]; rfl⟩
  · refine e_Ok.sw (tg := 73) rfl (by rw [h1]; rfl) ?_
    have hX : x = 2 := by omega
    refine e_Ok.run (t' := (76, [(0, (1, 275)), (1, (0, x)), (2, (0, a)), (3, (0, b)), (4, (0, c))], [(0, b), (0, a), (1, 275)], w)) 3 rfl ?_
    refine e_Ok.callV rfl (by omega) rfl rfl rfl rfl ((c_427 (by omega) hI hB hE (by omega) (by omega)).imp (fun _ _ h => again_of h6 (hC.2.2.2.1 hX) h)) (fun r13 w14 h15 => ?_)
    obtain ⟨z16, rfl, q17, q17s⟩ := h15
    show e_Ok 20 elay ecode eI (d + 1) 435 (79, [(0, (1, 275)), (1, (0, x)), (2, (0, a)), (3, (0, b)), (4, (0, c))], [(0, z16)], w14) _
    refine e_Ok.rets rfl rfl ?_
    exact ⟨_, rfl, (e_fr.mono q17 (fun _ _ g => Or.inl g)), q17 275 118 (by unfold mTi; omega), q17 275 6 (by unfold mTi; omega), fun k => by rw [q17s k, hX]; rfl⟩
  · refine e_Ok.sw (tg := 80) rfl (by rw [h1]; rfl) ?_
    have hX : x = 3 := by omega
    have hX3 := (hC.2.2.2.2.1 hX).2
    refine e_Ok.run (t' := (86, [(0, (1, 275)), (1, (0, x)), (2, (0, a)), (3, (0, b)), (4, (0, c))], [(0, 1), (0, c), (0, b), (0, a), (1, 275)], w)) 5 rfl ?_
    refine e_Ok.if2 rfl (fun h18 => ?_) (fun h18 => ?_)
    · replace h18 : (c : Int) ≠ 1 := h18
      refine e_Ok.run (t' := (94, [(0, (1, 275)), (1, (0, x)), (2, (0, a)), (3, (0, b)), (4, (0, c))], [(0, 0), (0, b), (0, a), (1, 275)], w)) 1 rfl ?_
      refine e_Ok.callV rfl (by omega) rfl rfl rfl rfl ((c_428 (by omega) hI hB hE (by omega) (by omega) (by omega) (by omega)).imp (fun _ _ h => again_of h6 (hC.2.2.2.2.1 hX).1 h)) (fun r19 w20 h21 => ?_)
      obtain ⟨z22, rfl, q23, q23s⟩ := h21
      show e_Ok 20 elay ecode eI (d + 1) 435 (97, [(0, (1, 275)), (1, (0, x)), (2, (0, a)), (3, (0, b)), (4, (0, c))], [(0, z22)], w20) _
      refine e_Ok.rets rfl rfl ?_
      exact ⟨_, rfl, (e_fr.mono q23 (fun _ _ g => Or.inl g)), q23 275 118 (by unfold mTi; omega), q23 275 6 (by unfold mTi; omega), fun k => by rw [q23s k, hX, show c = 0 by omega]; rfl⟩
    · replace h18 : (c : Int) = 1 := by have q : ¬ ((c : Int) ≠ 1) := h18; omega
      refine e_Ok.run (t' := (94, [(0, (1, 275)), (1, (0, x)), (2, (0, a)), (3, (0, b)), (4, (0, c))], [(0, 1), (0, b), (0, a), (1, 275)], w)) 2 rfl ?_
      refine e_Ok.callV rfl (by omega) rfl rfl rfl rfl ((c_428 (by omega) hI hB hE (by omega) (by omega) (by omega) (by omega)).imp (fun _ _ h => again_of h6 (hC.2.2.2.2.1 hX).1 h)) (fun r24 w25 h26 => ?_)
      obtain ⟨z27, rfl, q28, q28s⟩ := h26
      show e_Ok 20 elay ecode eI (d + 1) 435 (97, [(0, (1, 275)), (1, (0, x)), (2, (0, a)), (3, (0, b)), (4, (0, c))], [(0, z27)], w25) _
      refine e_Ok.rets rfl rfl ?_
      exact ⟨_, rfl, (e_fr.mono q28 (fun _ _ g => Or.inl g)), q28 275 118 (by unfold mTi; omega), q28 275 6 (by unfold mTi; omega), fun k => by rw [q28s k, hX, show c = 1 by omega]; rfl⟩
  · refine e_Ok.sw (tg := 98) rfl (by rw [h1]; rfl) ?_
    have hX : x = 4 := by omega
    have hX4 := (hC.2.2.2.2.2.1 hX).2
    refine e_Ok.run (t' := (102, [(0, (1, 275)), (1, (0, x)), (2, (0, a)), (3, (0, b)), (4, (0, c))], [(0, 1), (0, b), (0, a), (1, 275)], w)) 4 rfl ?_
    refine e_Ok.if2 rfl (fun h29 => ?_) (fun h29 => ?_)
    · replace h29 : (b : Int) ≠ 1 := h29
      refine e_Ok.run (t' := (113, [(0, (1, 275)), (1, (0, x)), (2, (0, a)), (3, (0, b)), (4, (0, c))], [(0, 1), (0, c), (0, 0), (0, a), (1, 275)], w)) 3 rfl ?_
      refine e_Ok.if2 rfl (fun h30 => ?_) (fun h30 => ?_)
      · replace h30 : (c : Int) ≠ 1 := h30
        refine e_Ok.run (t' := (121, [(0, (1, 275)), (1, (0, x)), (2, (0, a)), (3, (0, b)), (4, (0, c))], [(0, 0), (0, 0), (0, a), (1, 275)], w)) 1 rfl ?_
        refine e_Ok.callV rfl (by omega) rfl rfl rfl rfl ((c_429 (by omega) hI hB hE (by omega) (by omega) (by omega) (by omega) (by omega)).imp (fun _ _ h => again_of h6 (hC.2.2.2.2.2.1 hX).1 h)) (fun r31 w32 h33 => ?_)
        obtain ⟨z34, rfl, q35, q35s⟩ := h33
        show e_Ok 20 elay ecode eI (d + 1) 435 (124, [(0, (1, 275)), (1, (0, x)), (2, (0, a)), (3, (0, b)), (4, (0, c))], [(0, z34)], w32) _
        refine e_Ok.rets rfl rfl ?_
        exact ⟨_, rfl, (e_fr.mono q35 (fun _ _ g => Or.inl g)), q35 275 118 (by unfold mTi; omega), q35 275 6 (by unfold mTi; omega), fun k => by rw [q35s k, hX, show b = 0 by omega, show c = 0 by omega]; rfl⟩
      · replace h30 : (c : Int) = 1 := by have q : ¬ ((c : Int) ≠ 1) := h30; omega
        refine e_Ok.run (t' := (121, [(0, (1, 275)), (1, (0, x)), (2, (0, a)), (3, (0, b)), (4, (0, c))], [(0, 1), (0, 0), (0, a), (1, 275)], w)) 2 rfl ?_
        refine e_Ok.callV rfl (by omega) rfl rfl rfl rfl ((c_429 (by omega) hI hB hE (by omega) (by omega) (by omega) (by omega) (by omega)).imp (fun _ _ h => again_of h6 (hC.2.2.2.2.2.1 hX).1 h)) (fun r36 w37 h38 => ?_)
        obtain ⟨z40, rfl, q41, q41s⟩ := h38
        show e_Ok 20 elay ecode eI (d + 1) 435 (124, [(0, (1, 275)), (1, (0, x)), (2, (0, a)), (3, (0, b)), (4, (0, c))], [(0, z40)], w37) _
        refine e_Ok.rets rfl rfl ?_
        exact ⟨_, rfl, (e_fr.mono q41 (fun _ _ g => Or.inl g)), q41 275 118 (by unfold mTi; omega), q41 275 6 (by unfold mTi; omega), fun k => by rw [q41s k, hX, show b = 0 by omega, show c = 1 by omega]; rfl⟩
    · replace h29 : (b : Int) = 1 := by have q : ¬ ((b : Int) ≠ 1) := h29; omega
      refine e_Ok.run (t' := (113, [(0, (1, 275)), (1, (0, x)), (2, (0, a)), (3, (0, b)), (4, (0, c))], [(0, 1), (0, c), (0, 1), (0, a), (1, 275)], w)) 4 rfl ?_
      refine e_Ok.if2 rfl (fun h42 => ?_) (fun h42 => ?_)
      · replace h42 : (c : Int) ≠ 1 := h42
        refine e_Ok.run (t' := (121, [(0, (1, 275)), (1, (0, x)), (2, (0, a)), (3, (0, b)), (4, (0, c))], [(0, 0), (0, 1), (0, a), (1, 275)], w)) 1 rfl ?_
        refine e_Ok.callV rfl (by omega) rfl rfl rfl rfl ((c_429 (by omega) hI hB hE (by omega) (by omega) (by omega) (by omega) (by omega)).imp (fun _ _ h => again_of h6 (hC.2.2.2.2.2.1 hX).1 h)) (fun r43 w44 h45 => ?_)
        obtain ⟨z46, rfl, q47, q47s⟩ := h45
        show e_Ok 20 elay ecode eI (d + 1) 435 (124, [(0, (1, 275)), (1, (0, x)), (2, (0, a)), (3, (0, b)), (4, (0, c))], [(0, z46)], w44) _
        refine e_Ok.rets rfl rfl ?_
        exact ⟨_, rfl, (e_fr.mono q47 (fun _ _ g => Or.inl g)), q47 275 118 (by unfold mTi; omega), q47 275 6 (by unfold mTi; omega), fun k => by rw [q47s k, hX, show b = 1 by omega, show c = 0 by omega]; rfl⟩
      · replace h42 : (c : Int) = 1 := by have q : ¬ ((c : Int) ≠ 1) := h42; omega
        refine e_Ok.run (t' := (121, [(0, (1, 275)), (1, (0, x)), (2, (0, a)), (3, (0, b)), (4, (0, c))], [(0, 1), (0, 1), (0, a), (1, 275)], w)) 2 rfl ?_
        refine e_Ok.callV rfl (by omega) rfl rfl rfl rfl ((c_429 (by omega) hI hB hE (by omega) (by omega) (by omega) (by omega) (by omega)).imp (fun _ _ h => again_of h6 (hC.2.2.2.2.2.1 hX).1 h)) (fun r48 w49 h50 => ?_)
        obtain ⟨z51, rfl, q52, q52s⟩ := h50
        show e_Ok 20 elay ecode eI (d + 1) 435 (124, [(0, (1, 275)), (1, (0, x)), (2, (0, a)), (3, (0, b)), (4, (0, c))], [(0, z51)], w49) _
        refine e_Ok.rets rfl rfl ?_
        exact ⟨_, rfl, (e_fr.mono q52 (fun _ _ g => Or.inl g)), q52 275 118 (by unfold mTi; omega), q52 275 6 (by unfold mTi; omega), fun k => by rw [q52s k, hX, show b = 1 by omega, show c = 1 by omega]; rfl⟩
  · refine e_Ok.sw (tg := 125) rfl (by rw [h1]; rfl) ?_
    have hX : x = 5 := by omega
    refine e_Ok.run (t' := (127, [(0, (1, 275)), (1, (0, x)), (2, (0, a)), (3, (0, b)), (4, (0, c))], [(0, a), (1, 275)], w)) 2 rfl ?_
    refine e_Ok.callV rfl (by omega) rfl rfl rfl rfl ((c_430 (by omega) hI hB hE (by omega)).imp (fun _ _ h => again_of h6 (hC.2.2.2.2.2.2.1 hX) h)) (fun r53 w54 h55 => ?_)
    obtain ⟨z56, rfl, q57, q57s⟩ := h55
    show e_Ok 20 elay ecode eI (d + 1) 435 (130, [(0, (1, 275)), (1, (0, x)), (2, (0, a)), (3, (0, b)), (4, (0, c))], [(0, z56)], w54) _
    refine e_Ok.rets rfl rfl ?_
    exact ⟨_, rfl, (e_fr.mono q57 (fun _ _ g => Or.inl g)), q57 275 118 (by unfold mTi; omega), q57 275 6 (by unfold mTi; omega), fun k => by rw [q57s k, hX]; rfl⟩
  · refine e_Ok.sw (tg := 131) rfl (by rw [h1]; rfl) ?_
    have hX : x = 6 := by omega
    refine e_Ok.run (t' := (133, [(0, (1, 275)), (1, (0, x)), (2, (0, a)), (3, (0, b)), (4, (0, c))], [(0, a), (1, 275)], w)) 2 rfl ?_
    refine e_Ok.callV rfl (by omega) rfl rfl rfl rfl ((c_431 (by omega) hI hB hE (by omega)).imp (fun _ _ h => again_of h6 (hC.2.2.2.2.2.2.2.1 hX) h)) (fun r58 w59 h60 => ?_)
    obtain ⟨z61, rfl, q62, q62s⟩ := h60
    show e_Ok 20 elay ecode eI (d + 1) 435 (136, [(0, (1, 275)), (1, (0, x)), (2, (0, a)), (3, (0, b)), (4, (0, c))], [(0, z61)], w59) _
    refine e_Ok.rets rfl rfl ?_
    exact ⟨_, rfl, (e_fr.mono q62 (fun _ _ g => Or.inl g)), q62 275 118 (by unfold mTi; omega), q62 275 6 (by unfold mTi; omega), fun k => by rw [q62s k, hX]; rfl⟩
  · refine e_Ok.sw (tg := 137) rfl (by rw [h1]; rfl) ?_
    have hX : x = 7 := by omega
    refine e_Ok.run (t' := (139, [(0, (1, 275)), (1, (0, x)), (2, (0, a)), (3, (0, b)), (4, (0, c))], [(0, a), (1, 275)], w)) 2 rfl ?_
    refine e_Ok.callV rfl (by omega) rfl rfl rfl rfl ((c_432 (by omega) hI hB hE (by omega)).imp (fun _ _ h => again_of h6 (hC.2.2.2.2.2.2.2.2.1 hX) h)) (fun r63 w64 h65 => ?_)
    obtain ⟨z66, rfl, q67, q67s⟩ := h65
    show e_Ok 20 elay ecode eI (d + 1) 435 (142, [(0, (1, 275)), (1, (0, x)), (2, (0, a)), (3, (0, b)), (4, (0, c))], [(0, z66)], w64) _
    refine e_Ok.rets rfl rfl ?_
    exact ⟨_, rfl, (e_fr.mono q67 (fun _ _ g => Or.inl g)), q67 275 118 (by unfold mTi; omega), q67 275 6 (by unfold mTi; omega), fun k => by rw [q67s k, hX]; rfl⟩
  · refine e_Ok.sw (tg := 143) rfl (by rw [h1]; rfl) ?_
    have hX : x = 8 := by omega
    refine e_Ok.run (t' := (148, [(0, (1, 275)), (1, (0, x)), (2, (0, a)), (3, (0, b)), (4, (0, c))], [(0, c), (0, b), (0, a), (1, 275)], w)) 4 rfl ?_
    refine e_Ok.callV rfl (by omega) rfl rfl rfl rfl ((c_433 (by omega) hI hB hE (by omega) (by omega) (by omega)).imp (fun _ _ h => again_of h6 (hC.2.2.2.2.2.2.2.2.2.1 hX) h)) (fun r68 w69 h70 => ?_)
    obtain ⟨z71, rfl, q72, q72s⟩ := h70
    show e_Ok 20 elay ecode eI (d + 1) 435 (151, [(0, (1, 275)), (1, (0, x)), (2, (0, a)), (3, (0, b)), (4, (0, c))], [(0, z71)], w69) _
    refine e_Ok.rets rfl rfl ?_
    exact ⟨_, rfl, (e_fr.mono q72 (fun _ _ g => Or.inl g)), q72 275 118 (by unfold mTi; omega), q72 275 6 (by unfold mTi; omega), fun k => by rw [q72s k, hX]; rfl⟩
  · refine e_Ok.sw (tg := 152) rfl (by rw [h1]; rfl) ?_
    have hX : x = 9 := by omega
    refine e_Ok.run (t' := (155, [(0, (1, 275)), (1, (0, x)), (2, (0, a)), (3, (0, b)), (4, (0, c))], [(0, b), (0, a), (1, 275)], w)) 3 rfl ?_
    refine e_Ok.callV rfl (by omega) rfl rfl rfl rfl ((c_434 (by omega) hI hB hE (by omega) (by omega)).imp (fun _ _ h => again_of h6 (hC.2.2.2.2.2.2.2.2.2.2.1 hX) h)) (fun r73 w74 h75 => ?_)
    obtain ⟨z76, rfl, q77, q77s⟩ := h75
    show e_Ok 20 elay ecode eI (d + 1) 435 (158, [(0, (1, 275)), (1, (0, x)), (2, (0, a)), (3, (0, b)), (4, (0, c))], [(0, z76)], w74) _
    refine e_Ok.rets rfl rfl ?_
    exact ⟨_, rfl, (e_fr.mono q77 (fun _ _ g => Or.inl g)), q77 275 118 (by unfold mTi; omega), q77 275 6 (by unfold mTi; omega), fun k => by rw [q77s k, hX]; rfl⟩
  · refine e_Ok.sw (tg := 168) rfl (by rw [h1]; rfl) ?_
    have hX : x = 11 := by omega
    refine e_Ok.run (t' := (170, [(0, (1, 275)), (1, (0, x)), (2, (0, a)), (3, (0, b)), (4, (0, c))], [(0, a), (1, 275)], w)) 2 rfl ?_
    refine e_Ok.callV rfl (by omega) rfl rfl rfl rfl ((c_419 (by omega) hI hB hE (by omega)).imp (fun _ _ h => again_of h6 (hC.2.2.2.2.2.2.2.2.2.2.2 hX) h)) (fun r78 w79 h80 => ?_)
    obtain ⟨z81, rfl, q82, q82s⟩ := h80
    show e_Ok 20 elay ecode eI (d + 1) 435 (173, [(0, (1, 275)), (1, (0, x)), (2, (0, a)), (3, (0, b)), (4, (0, c))], [(0, z81)], w79) _
    refine e_Ok.rets rfl rfl ?_
    exact ⟨_, rfl, (e_fr.mono q82 (fun _ _ g => Or.inl g)), q82 275 118 (by unfold mTi; omega), q82 275 6 (by unfold mTi; omega), fun k => by rw [q82s k, hX]; rfl⟩
theorem c_435_p {d : Nat} (hd : 47 ≤ d) {w : eW} {G : Int → Gh} (hI : mInv w G) (hB : bkE w) (h6 : w 275 6 = 1) (hpl : 0 ≤ w 275 118 ∧ w 275 118 ≤ 60) {a b c : Int} (g1 : -2147483648 ≤ a ∧ a ≤ 2147483647) (g2 : -2147483648 ≤ b ∧ b ≤ 2147483647) (g3 : -2147483648 ≤ c ∧ c ≤ 2147483647) (hA : plA w a b c) {R E zz : Int} {g : Int → Int} (hR : 0 ≤ R ∧ R ≤ 1999) (hr7 : w 275 117 = R) (hzz : 0 ≤ zz ∧ zz ≤ 999) (hEE : 0 ≤ E ∧ E + zz ≤ 200000) (hE5 : w 355 R = E) (hE6 : w 356 R = E + zz) (hE4 : ∀ i, 0 ≤ i → i < zz → w 354 (E + i) = g i ∧ 0 ≤ g i ∧ g i ≤ 11) : e_Ok 20 elay ecode eI d 435 (0, [(0, (1, 275)), (1, (0, 10)), (2, (0, a)), (3, (0, b)), (4, (0, c))], [], w) (fun r w' => ∃ z : Int, r = [(0, z)] ∧ e_fr mBb w w' ∧ w' 275 118 = w 275 118 ∧ w' 275 6 = w 275 6 ∧ ∀ k, w' 276 k = plN w a b zz g k) := by
  obtain ⟨d, rfl⟩ : ∃ e, d = e + 1 := ⟨d - 1, by omega⟩
  refine e_Ok.run (t' := (1, [(0, (1, 275)), (1, (0, 10)), (2, (0, a)), (3, (0, b)), (4, (0, c))], [(0, 10)], w)) 1 rfl ?_
  have hs2 : ∀ x : Int, 10 ≤ x ∧ x ≤ 10 → (x = 10) := fun x h => by omega
  obtain h1 := hs2 (10) (by omega)
  · refine e_Ok.sw (tg := 159) rfl (by rw [h1]; rfl) ?_
    refine e_Ok.run (t' := (164, [(0, (1, 275)), (1, (0, 10)), (2, (0, a)), (3, (0, b)), (4, (0, c))], [(0, c), (0, b), (0, a), (1, 275)], w)) 4 rfl ?_
    refine e_Ok.callV rfl (by omega) rfl rfl rfl rfl (c_418_a (by omega) hI hB (by omega) (by omega) (by omega) hpl h6 hA hR hr7 hzz hEE hE5 hE6 hE4) (fun r3 w4 h5 => ?_)
    obtain ⟨z6, rfl, q7, q7T, q78, q7s⟩ := h5
    show e_Ok 20 elay ecode eI (d + 1) 435 (167, [(0, (1, 275)), (1, (0, 10)), (2, (0, a)), (3, (0, b)), (4, (0, c))], [(0, z6)], w4) _
    refine e_Ok.rets rfl rfl ?_
    exact ⟨_, rfl, (e_fr.mono q7 (fun _ _ g => Or.inr (Or.inl g))), q78, q7 275 6 (by unfold mPm; omega), q7s⟩
theorem c_435 {d : Nat} (hd : 47 ≤ d) {w : eW} {G : Int → Gh} (hI : mInv w G) (hB : bkE w) (hE : w 276 5 ≤ 7000000) (h6 : w 275 6 = 1) (hpl : 0 ≤ w 275 118 ∧ w 275 118 ≤ 60) {i x a b c : Int} {s : Int → Int} (hi : 0 ≤ i ∧ i ≤ 1999) (h7 : w 275 117 = i) (hr : bkR w i (w 276) s) (h56 : w 356 i ≤ 200000) (ex : w 279 (4 * i) = x) (ea : w 279 (4 * i + 1) = a) (eb : w 279 (4 * i + 2) = b) (ec : w 279 (4 * i + 3) = c) : e_Ok 20 elay ecode eI d 435 (0, [(0, (1, 275)), (1, (0, x)), (2, (0, a)), (3, (0, b)), (4, (0, c))], [], w) (fun r w' => ∃ z : Int, r = [(0, z)] ∧ e_fr mBb w w' ∧ w' 275 118 = w 275 118 ∧ w' 275 6 = w 275 6 ∧ ∀ k, w' 276 k = s k) := by
  obtain ⟨q1, q2⟩ := hr
  have kx := q1 (4 * i) (by omega) (by omega)
  have ka := q1 (4 * i + 1) (by omega) (by omega)
  have kb := q1 (4 * i + 2) (by omega) (by omega)
  have kc := q1 (4 * i + 3) (by omega) (by omega)
  rw [wn_self, ex, ea, eb, ec] at q2
  rw [ex] at kx
  rw [ea] at ka
  rw [eb] at kb
  rw [ec] at kc
  rcases q2 with ⟨q2, q3⟩ | ⟨q2, q3, z, g, z1, z2, z3, z4, z5⟩
  · refine (c_435_r hd hI hB hE h6 kx ka kb kc q2).imp (fun r w' h => ?_)
    obtain ⟨z, h1, h2, h3, h4, h5⟩ := h
    exact ⟨z, h1, h2, h3, h4, fun k => by rw [h5 k, q3 k]⟩
  · subst q2
    refine (c_435_p hd hI hB h6 hpl ka kb kc q3 (E := w 355 i) hi h7 z1 ⟨z2, by omega⟩ rfl z3 z4).imp (fun r w' h => ?_)
    obtain ⟨z', h1, h2, h3, h4, h5⟩ := h
    exact ⟨z', h1, h2, h3, h4, fun k => by rw [h5 k, z5 k]⟩
set_option maxHeartbeats 4000000 in
theorem c_436 {d : Nat} (hd : 49 ≤ d) {w : eW} {G : Int → Gh} {S : Int → Int → Int} (hK : bkI w G S) {p1 : Int} (g1 : -2147483648 ≤ p1 ∧ p1 ≤ 2147483647) : e_Ok 20 elay ecode eI d 436 (0, [(0, (1, 275)), (1, (0, p1))], [], w) (fun r w' => ∃ z : Int, r = [(0, z)] ∧ (w = w' ∨ (bkI w' G S ∧ e_fr (fun c k => mBb c k ∨ (c = 275 ∧ k = 5)) w w'))) := by
  obtain ⟨d, rfl⟩ : ∃ e, d = e + 1 := ⟨d - 1, by omega⟩
  have hI := hK.inv
  have hro := hK.2.2.2.2.2.2.2.2
  refine e_Ok.run (t' := (4, [(0, (1, 275)), (1, (0, p1))], [(1, 275), (4, 0), (4, p1)], w)) 4 rfl ?_
  refine e_Ok.getf (z := w 275 5) rfl (el_o rfl) rfl rfl rfl (by omega) ?_
  refine e_Ok.run (t' := (8, [(0, (1, 275)), (1, (0, p1))], [(4, w 275 5), (4, 0), (4, p1)], w)) 1 rfl ?_
  refine e_Ok.callS rfl (by omega) rfl rfl (c_266) (fun r1 w2 h3 => ?_)
  obtain ⟨z4, rfl, rfl, q5⟩ := h3
  obtain ⟨rfl, q5⟩ | ⟨rfl, q5⟩ := q5
  · show e_Ok 20 elay ecode eI (d + 1) 436 (11, [(0, (1, 275)), (1, (0, p1))], [(0, 1)], w) _
    refine e_Ok.if1 rfl (fun h6 => ?_) (fun h6 => ?_)
    · replace h6 : (1 : Int) ≠ 0 := h6
      refine e_Ok.run (t' := (17, [(0, (1, 275)), (1, (0, p1))], [(1, 275)], w)) 1 rfl ?_
      have h7 := (e_Has.get hI.1 (c := 275) (k := 3) (lo := 0) (hi := 1) rfl (by decide))
      refine e_Ok.getf (z := w 275 3) rfl (el_o rfl) rfl rfl rfl (by omega) ?_
      refine e_Ok.if1 rfl (fun h8 => ?_) (fun h8 => ?_)
      · replace h8 : (w 275 3 : Int) ≠ 0 := h8
        refine e_Ok.run (t' := (29, [(0, (1, 275)), (1, (0, p1))], [(0, 100), (0, p1)], w)) 2 rfl ?_
        refine e_Ok.divn (fun z9 hz9 => ?_) rfl (by omega) (by omega)
        replace hz9 : z9 = p1 / 100 := hz9
        have z9r : 0 ≤ z9 ∧ z9 ≤ 20 := by omega
        have hSz := hK.2.1 (100 * z9) (by omega) (by omega)
        refine e_Ok.run (t' := (33, [(3, (0, 0)), (2, (0, z9)), (0, (1, 275)), (1, (0, p1))], [], w)) 3 rfl ?_
        have hL10 : ∀ (nn : Nat) (y3 : Int) (v1 : eW), e_fr mBb w v1 ∧ (0 ≤ y3 ∧ y3 ≤ 33060) ∧ (∀ k, 0 ≤ k → k < y3 → v1 276 k = S (100 * z9) k) ∧ (∀ c k, ¬ (c = 276 ∧ 0 ≤ k ∧ k < y3) → v1 c k = w c k) → 33061 - y3 < nn → e_Ok 20 elay ecode eI (d + 1) 436 (33, [(0, (1, 275)), (1, (0, p1)), (2, (0, z9)), (3, (0, y3))], [], v1) (fun r w' => ∃ z : Int, r = [(0, z)] ∧ (w = w' ∨ (bkI w' G S ∧ e_fr (fun c k => mBb c k ∨ (c = 275 ∧ k = 5)) w w'))) := by
          intro nn
          induction nn with
          | zero => intro y3 v1 hj hm; obtain ⟨j12, j13, j14, j15⟩ := hj; exfalso; omega
          | succ nn ih11 =>
            intro y3 v1 hj hm
            obtain ⟨j12, j13, j14, j15⟩ := hj
            refine e_Ok.run (t' := (36, [(0, (1, 275)), (1, (0, p1)), (2, (0, z9)), (3, (0, y3))], [(0, 33060), (0, y3)], v1)) 2 rfl ?_
            refine e_Ok.if2 rfl (fun h16 => ?_) (fun h16 => ?_)
            · replace h16 : (y3 : Int) ≥ 33060 := h16
              have hv1s : ∀ k, v1 276 k = S (100 * z9) k := fun k => Decidable.byCases (p := 0 ≤ k ∧ k < 33060) (fun e => j14 k e.1 (by omega)) (fun e => Eq.trans (j15 276 k (by omega)) (hSz.2.2 k (by omega)).symm)
              have hv1T : e_Has mTy v1 := e_Has.low hSz.1.1 (frB.onN (frB.bb j12) hv1s)
              refine e_Ok.run (t' := (79, [(0, (1, 275)), (1, (0, p1)), (2, (0, z9)), (3, (0, y3))], [(0, 1), (1, 275)], v1)) 2 rfl ?_
              refine e_Ok.putb rfl (el_o rfl) rfl rfl (by omega) ?_
              generalize hw17 : e_up v1 275 6 1 = w17
              have f18 : e_fr mBb w w17 := e_fr.up j12 hw17 (by unfold mBb mTi mPm; omega)
              refine e_Ok.run (t' := (85, [(0, (1, 275)), (1, (0, p1)), (2, (0, z9)), (3, (0, y3))], [(0, z9), (0, 100)], w17)) 2 rfl ?_
              refine e_Ok.mul (z := 100 * z9) rfl (by omega) (by omega) ?_
              refine e_Ok.run (t' := (87, [(3, (0, 100 * z9)), (0, (1, 275)), (1, (0, p1)), (2, (0, z9))], [], w17)) 1 rfl ?_
              have hL19 : ∀ (nn : Nat) (y3 : Int) (v2 : eW), e_fr mBb w v2 ∧ e_Has mTy v2 ∧ v2 275 6 = 1 ∧ v2 275 118 = w 275 118 ∧ (∀ k, v2 276 k = S y3 k) ∧ ((100 * z9 ≤ y3 ∧ y3 ≤ p1)) → 2001 - y3 < nn → e_Ok 20 elay ecode eI (d + 1) 436 (87, [(0, (1, 275)), (1, (0, p1)), (3, (0, y3))], [], v2) (fun r w' => ∃ z : Int, r = [(0, z)] ∧ (w = w' ∨ (bkI w' G S ∧ e_fr (fun c k => mBb c k ∨ (c = 275 ∧ k = 5)) w w'))) := by
                intro nn
                induction nn with
                | zero => intro y3 v2 hj hm; obtain ⟨j21, j22, j23, j24, j25, j26⟩ := hj; exfalso; omega
                | succ nn ih20 =>
                  intro y3 v2 hj hm
                  obtain ⟨j21, j22, j23, j24, j25, j26⟩ := hj
                  refine e_Ok.run (t' := (89, [(0, (1, 275)), (1, (0, p1)), (3, (0, y3))], [(0, p1), (0, y3)], v2)) 2 rfl ?_
                  refine e_Ok.if2 rfl (fun h27 => ?_) (fun h27 => ?_)
                  · replace h27 : (y3 : Int) ≥ p1 := h27
                    refine e_Ok.run (t' := (149, [(0, (1, 275)), (1, (0, p1)), (3, (0, y3))], [(0, 0), (1, 275)], v2)) 2 rfl ?_
                    refine e_Ok.putb rfl (el_o rfl) rfl rfl (by omega) ?_
                    generalize hw28 : e_up v2 275 6 0 = w28
                    have f29 : e_fr mBb w w28 := e_fr.up j21 hw28 (by unfold mBb mTi mPm; omega)
                    refine e_Ok.run (t' := (154, [(0, (1, 275)), (1, (0, p1)), (3, (0, y3))], [(0, p1), (1, 275)], w28)) 2 rfl ?_
                    refine e_Ok.putf rfl (el_o rfl) rfl rfl ?_
                    generalize hw30 : e_up w28 275 5 p1 = w30
                    refine e_Ok.run (t' := (158, [(0, (1, 275)), (1, (0, p1)), (3, (0, y3))], [(1, 275)], w30)) 1 rfl ?_
                    refine e_Ok.getr (z := 276) rfl (el_o rfl) rfl rfl (by rw [← hw30]; exact (e_up_ne _ _ (Or.inr (by omega))).trans (by rw [← hw28]; exact (e_up_ne _ _ (Or.inr (by omega))).trans ((j21 275 0 (by unfold mBb mTi mPm; omega)).trans (e_Has.eq hI.1 rfl)))) (by omega) ?_
                    refine e_Ok.run (t' := (162, [(0, (1, 275)), (1, (0, p1)), (3, (0, y3))], [(0, 0), (1, 276)], w30)) 1 rfl ?_
                    have h31 := (e_Has.get j22 (c := 276) (k := 0) (lo := 0) (hi := 6000) rfl (by decide))
                    refine e_Ok.ald (z := v2 276 0) rfl (el_o rfl) rfl (by omega) (by rw [← hw30]; exact (e_up_ne _ _ (Or.inl (by omega))).trans (by rw [← hw28]; exact (e_up_ne _ _ (Or.inl (by omega))).trans rfl)) (by omega) ?_
                    refine e_Ok.rets rfl rfl ?_
                    have hb := bkI.back hK j21 j24 (n := p1) (fun k => by rw [show p1 = y3 by omega]; exact j25 k) (by omega) hw28 hw30 (fun k g => by rw [j25 k]; exact (hK.2.1 y3 (by omega) (by omega)).2.2 k g)
                    exact ⟨_, rfl, Or.inr ⟨hb, fun c k q => (by rw [← hw30, ← hw28]; exact (e_up_ne _ _ (by omega)).trans ((e_up_ne _ _ (by unfold mBb at q; omega)).trans (j21 c k (fun g => q (Or.inl g)))))⟩⟩
                  · replace h27 : (y3 : Int) < p1 := by have q : ¬ ((y3 : Int) ≥ p1) := h27; omega
                    have hkb := (hK.2.2.2.2.1 y3 (by omega) (by omega)).1
                    refine e_Ok.run (t' := (94, [(0, (1, 275)), (1, (0, p1)), (3, (0, y3))], [(0, y3), (1, 275)], v2)) 2 rfl ?_
                    refine e_Ok.putf rfl (el_o rfl) rfl rfl ?_
                    generalize hw32 : e_up v2 275 117 y3 = w32
                    have f33 : e_fr mBb w w32 := e_fr.up j21 hw32 (by unfold mBb mTi mPm; omega)
                    refine e_Ok.run (t' := (99, [(0, (1, 275)), (1, (0, p1)), (3, (0, y3))], [(1, 275), (1, 275)], w32)) 2 rfl ?_
                    refine e_Ok.getr (z := 279) rfl (el_o rfl) rfl rfl (by rw [← hw32]; exact (e_up_ne _ _ (Or.inr (by omega))).trans ((j21 275 4 (by unfold mBb mTi mPm; omega)).trans (e_Has.eq hI.1 rfl))) (by omega) ?_
                    refine e_Ok.run (t' := (104, [(0, (1, 275)), (1, (0, p1)), (3, (0, y3))], [(0, y3), (0, 4), (1, 279), (1, 275)], w32)) 2 rfl ?_
                    refine e_Ok.mul (z := 4 * y3) rfl (by omega) (by omega) ?_
                    have h34 := (hkb (4 * y3) (by omega) (by omega))
                    refine e_Ok.ald (z := w 279 (4 * y3)) rfl (el_o rfl) rfl (by omega) (by rw [← hw32]; exact (e_up_ne _ _ (Or.inl (by omega))).trans ((j21 279 (4 * y3) (by unfold mBb mTi mPm; omega)).trans rfl)) (by omega) ?_
                    refine e_Ok.run (t' := (107, [(0, (1, 275)), (1, (0, p1)), (3, (0, y3))], [(1, 275), (0, w 279 (4 * y3)), (1, 275)], w32)) 1 rfl ?_
                    refine e_Ok.getr (z := 279) rfl (el_o rfl) rfl rfl (by rw [← hw32]; exact (e_up_ne _ _ (Or.inr (by omega))).trans ((j21 275 4 (by unfold mBb mTi mPm; omega)).trans (e_Has.eq hI.1 rfl))) (by omega) ?_
                    refine e_Ok.run (t' := (112, [(0, (1, 275)), (1, (0, p1)), (3, (0, y3))], [(0, y3), (0, 4), (1, 279), (0, w 279 (4 * y3)), (1, 275)], w32)) 2 rfl ?_
                    refine e_Ok.mul (z := 4 * y3) rfl (by omega) (by omega) ?_
                    refine e_Ok.run (t' := (114, [(0, (1, 275)), (1, (0, p1)), (3, (0, y3))], [(0, 1), (0, 4 * y3), (1, 279), (0, w 279 (4 * y3)), (1, 275)], w32)) 1 rfl ?_
                    refine e_Ok.add (z := 4 * y3 + 1) rfl (by omega) (by omega) ?_
                    have h35 := (hkb (4 * y3 + 1) (by omega) (by omega))
                    refine e_Ok.ald (z := w 279 (4 * y3 + 1)) rfl (el_o rfl) rfl (by omega) (by rw [← hw32]; exact (e_up_ne _ _ (Or.inl (by omega))).trans ((j21 279 (4 * y3 + 1) (by unfold mBb mTi mPm; omega)).trans rfl)) (by omega) ?_
                    refine e_Ok.run (t' := (117, [(0, (1, 275)), (1, (0, p1)), (3, (0, y3))], [(1, 275), (0, w 279 (4 * y3 + 1)), (0, w 279 (4 * y3)), (1, 275)], w32)) 1 rfl ?_
                    refine e_Ok.getr (z := 279) rfl (el_o rfl) rfl rfl (by rw [← hw32]; exact (e_up_ne _ _ (Or.inr (by omega))).trans ((j21 275 4 (by unfold mBb mTi mPm; omega)).trans (e_Has.eq hI.1 rfl))) (by omega) ?_
                    refine e_Ok.run (t' := (122, [(0, (1, 275)), (1, (0, p1)), (3, (0, y3))], [(0, y3), (0, 4), (1, 279), (0, w 279 (4 * y3 + 1)), (0, w 279 (4 * y3)), (1, 275)], w32)) 2 rfl ?_
                    refine e_Ok.mul (z := 4 * y3) rfl (by omega) (by omega) ?_
                    refine e_Ok.run (t' := (124, [(0, (1, 275)), (1, (0, p1)), (3, (0, y3))], [(0, 2), (0, 4 * y3), (1, 279), (0, w 279 (4 * y3 + 1)), (0, w 279 (4 * y3)), (1, 275)], w32)) 1 rfl ?_
                    refine e_Ok.add (z := 4 * y3 + 2) rfl (by omega) (by omega) ?_
                    have h36 := (hkb (4 * y3 + 2) (by omega) (by omega))
                    refine e_Ok.ald (z := w 279 (4 * y3 + 2)) rfl (el_o rfl) rfl (by omega) (by rw [← hw32]; exact (e_up_ne _ _ (Or.inl (by omega))).trans ((j21 279 (4 * y3 + 2) (by unfold mBb mTi mPm; omega)).trans rfl)) (by omega) ?_
                    refine e_Ok.run (t' := (127, [(0, (1, 275)), (1, (0, p1)), (3, (0, y3))], [(1, 275), (0, w 279 (4 * y3 + 2)), (0, w 279 (4 * y3 + 1)), (0, w 279 (4 * y3)), (1, 275)], w32)) 1 rfl ?_
                    refine e_Ok.getr (z := 279) rfl (el_o rfl) rfl rfl (by rw [← hw32]; exact (e_up_ne _ _ (Or.inr (by omega))).trans ((j21 275 4 (by unfold mBb mTi mPm; omega)).trans (e_Has.eq hI.1 rfl))) (by omega) ?_
                    refine e_Ok.run (t' := (132, [(0, (1, 275)), (1, (0, p1)), (3, (0, y3))], [(0, y3), (0, 4), (1, 279), (0, w 279 (4 * y3 + 2)), (0, w 279 (4 * y3 + 1)), (0, w 279 (4 * y3)), (1, 275)], w32)) 2 rfl ?_
                    refine e_Ok.mul (z := 4 * y3) rfl (by omega) (by omega) ?_
                    refine e_Ok.run (t' := (134, [(0, (1, 275)), (1, (0, p1)), (3, (0, y3))], [(0, 3), (0, 4 * y3), (1, 279), (0, w 279 (4 * y3 + 2)), (0, w 279 (4 * y3 + 1)), (0, w 279 (4 * y3)), (1, 275)], w32)) 1 rfl ?_
                    refine e_Ok.add (z := 4 * y3 + 3) rfl (by omega) (by omega) ?_
                    have h37 := (hkb (4 * y3 + 3) (by omega) (by omega))
                    refine e_Ok.ald (z := w 279 (4 * y3 + 3)) rfl (el_o rfl) rfl (by omega) (by rw [← hw32]; exact (e_up_ne _ _ (Or.inl (by omega))).trans ((j21 279 (4 * y3 + 3) (by unfold mBb mTi mPm; omega)).trans rfl)) (by omega) ?_
                    have hpr := bkI.pre hK f33 (show w32 275 6 = 1 from by rw [← hw32]; exact (e_up_ne _ _ (Or.inr (by decide))).trans j23) (fun k => Eq.trans (show w32 276 k = v2 276 k from by rw [← hw32]; exact e_up_ne _ _ (Or.inl (by decide))) (j25 k)) (i := y3) (by omega)
                    have h118 : w32 275 118 = w 275 118 := by rw [← hw32]; exact (e_up_ne _ _ (Or.inr (by decide))).trans j24
                    have h66 : w32 275 6 = 1 := by rw [← hw32]; exact (e_up_ne _ _ (Or.inr (by decide))).trans j23
                    refine e_Ok.callV rfl (by omega) rfl rfl rfl rfl (c_435 (by omega) hpr.1 hpr.2.1 hpr.2.2.1 h66 (by have := hK.2.2.2.2.2.2.1; omega) (i := y3) (by omega) (by rw [← hw32]; exact e_up_eq _ _ _ _) hpr.2.2.2.1 hpr.2.2.2.2.2 (f33 279 _ (by unfold mBb mTi mPm; omega)) (f33 279 _ (by unfold mBb mTi mPm; omega)) (f33 279 _ (by unfold mBb mTi mPm; omega)) (f33 279 _ (by unfold mBb mTi mPm; omega))) (fun r38 w40 h41 => ?_)
                    obtain ⟨z42, rfl, q43, q438, q436, q43s⟩ := h41
                    have f44 : e_fr mBb w w40 := e_fr.trans f33 (e_fr.mono q43 (fun c k q => by exact q))
                    have q43T : e_Has mTy w40 := (hK.2.1 (y3 + 1) (by omega) (by omega)).1.1.low (frB.onN (frB.bb f44) q43s)
                    show e_Ok 20 elay ecode eI (d + 1) 436 (139, [(0, (1, 275)), (1, (0, p1)), (3, (0, y3))], [(0, z42)], w40) _
                    refine e_Ok.run (t' := (141, [(4, (0, z42)), (0, (1, 275)), (1, (0, p1)), (3, (0, y3))], [], w40)) 1 rfl ?_
                    refine e_Ok.inc (z := y3 + 1) rfl rfl (by omega) (by omega) ?_
                    show e_Ok 20 elay ecode eI (d + 1) 436 (144, [(3, (0, y3 + 1)), (4, (0, z42)), (0, (1, 275)), (1, (0, p1))], [], w40) _
                    refine e_Ok.run (t' := (87, [(3, (0, y3 + 1)), (4, (0, z42)), (0, (1, 275)), (1, (0, p1))], [], w40)) 1 rfl ?_
                    refine e_Ok.sub eAlk (e_sub_of rfl ?_) (ih20 (y3 + 1) w40 ⟨f44, q43T, (q436.trans h66), (q438.trans h118), q43s, by omega⟩ (by omega))
                    exact ⟨rfl, rfl, rfl, trivial⟩
              refine e_Ok.sub eAlk (e_sub_of rfl ?_) (hL19 (2001 + 1 : Int).toNat (100 * z9) w17 ⟨f18, (e_Has.low hv1T (fun c k q => by rw [← hw17]; exact e_up_ne _ _ (Decidable.byCases (p := c = 275) (fun e => Or.inr (fun e2 => by rw [e, e2] at q; exact absurd q (by decide : ¬ ((1 : Int) ≤ 0)))) (fun e => Or.inl e)))), (by rw [← hw17]; exact e_up_eq _ _ _ _), (by rw [← hw17]; exact (e_up_ne _ _ (Or.inr (by decide))).trans (j15 275 118 (by omega))), (fun k => Eq.trans (show w17 276 k = v1 276 k from by rw [← hw17]; exact e_up_ne _ _ (Or.inl (by decide))) (hv1s k)), by omega⟩ (by omega))
              exact ⟨rfl, rfl, rfl, trivial⟩
            · replace h16 : (y3 : Int) < 33060 := by have q : ¬ ((y3 : Int) ≥ 33060) := h16; omega
              have hSb : -2147483648 ≤ S (100 * z9) y3 ∧ S (100 * z9) y3 ≤ 2147483647 := by have := e_Has.now hSz.1.1 y3; unfold wn at this; rw [if_pos rfl] at this; exact this
              refine e_Ok.run (t' := (40, [(0, (1, 275)), (1, (0, p1)), (2, (0, z9)), (3, (0, y3))], [(1, 275)], v1)) 1 rfl ?_
              refine e_Ok.getr (z := 276) rfl (el_o rfl) rfl rfl ((j12 275 0 (by unfold mBb mTi mPm; omega)).trans (e_Has.eq hI.1 rfl)) (by omega) ?_
              refine e_Ok.run (t' := (45, [(0, (1, 275)), (1, (0, p1)), (2, (0, z9)), (3, (0, y3))], [(0, z9), (0, y3), (1, 276)], v1)) 2 rfl ?_
              refine e_Ok.if1 rfl (fun h45 => ?_) (fun h45 => ?_)
              · replace h45 : (z9 : Int) ≠ 0 := h45
                refine e_Ok.run (t' := (58, [(0, (1, 275)), (1, (0, p1)), (2, (0, z9)), (3, (0, y3))], [(1, 275), (0, y3), (1, 276)], v1)) 1 rfl ?_
                refine e_Ok.getr (z := 278) rfl (el_o rfl) rfl rfl ((j12 275 2 (by unfold mBb mTi mPm; omega)).trans (e_Has.eq hI.1 rfl)) (by omega) ?_
                refine e_Ok.run (t' := (65, [(0, (1, 275)), (1, (0, p1)), (2, (0, z9)), (3, (0, y3))], [(0, 1), (0, z9), (0, 33060), (1, 278), (0, y3), (1, 276)], v1)) 3 rfl ?_
                refine e_Ok.sub' (z := z9 - 1) rfl (by omega) (by omega) ?_
                refine e_Ok.mul (z := 33060 * z9 - 33060) rfl (by omega) (by omega) ?_
                refine e_Ok.run (t' := (68, [(0, (1, 275)), (1, (0, p1)), (2, (0, z9)), (3, (0, y3))], [(0, y3), (0, 33060 * z9 - 33060), (1, 278), (0, y3), (1, 276)], v1)) 1 rfl ?_
                refine e_Ok.add (z := 33060 * z9 + y3 - 33060) rfl (by omega) (by omega) ?_
                refine e_Ok.ald (z := (S (100 * z9) y3)) rfl rfl rfl (by omega) ((j12 278 (33060 * z9 + y3 - 33060) (by unfold mBb mTi mPm; omega)).trans (by rw [show 33060 * z9 + y3 - 33060 = 33060 * z9 - 33060 + y3 by omega]; exact hK.2.2.2.1 z9 y3 (by omega) (by omega) (by omega) (by omega))) (by omega) ?_
                refine e_Ok.ast rfl (el_o rfl) rfl rfl (by omega) ?_
                generalize hw46 : e_up v1 276 y3 ((S (100 * z9) y3)) = w46
                have f47 : e_fr mBb w w46 := e_fr.up j12 hw46 (by unfold mBb mTi mPm; omega)
                refine e_Ok.inc (z := y3 + 1) rfl rfl (by omega) (by omega) ?_
                show e_Ok 20 elay ecode eI (d + 1) 436 (74, [(3, (0, y3 + 1)), (0, (1, 275)), (1, (0, p1)), (2, (0, z9))], [], w46) _
                refine e_Ok.run (t' := (33, [(3, (0, y3 + 1)), (0, (1, 275)), (1, (0, p1)), (2, (0, z9))], [], w46)) 1 rfl ?_
                refine e_Ok.sub eAlk (e_sub_of rfl ?_) (ih11 (y3 + 1) w46 ⟨f47, by omega, (fun k g1 g2 => Decidable.byCases (p := k = y3) (fun e => by rw [e, ← hw46]; exact e_up_eq _ _ _ _) (fun e => Eq.trans (show w46 276 k = v1 276 k from by rw [← hw46]; exact e_up_ne _ _ (Or.inr e)) (j14 k g1 (by omega)))), (fun c k q => Eq.trans (show w46 c k = v1 c k from by rw [← hw46]; exact e_up_ne _ _ (by omega)) (j15 c k (by omega)))⟩ (by omega))
                exact ⟨rfl, rfl, rfl, rfl, trivial⟩
              · replace h45 : (z9 : Int) = 0 := by have q : ¬ ((z9 : Int) ≠ 0) := h45; omega
                have hS0 : S 0 y3 = S (100 * z9) y3 := by rw [show 100 * z9 = 0 by omega]
                rw [← hS0] at hSb
                refine e_Ok.run (t' := (49, [(0, (1, 275)), (1, (0, p1)), (2, (0, z9)), (3, (0, y3))], [(1, 275), (0, y3), (1, 276)], v1)) 1 rfl ?_
                refine e_Ok.getr (z := 277) rfl (el_o rfl) rfl rfl ((j12 275 1 (by unfold mBb mTi mPm; omega)).trans (e_Has.eq hI.1 rfl)) (by omega) ?_
                refine e_Ok.run (t' := (53, [(0, (1, 275)), (1, (0, p1)), (2, (0, z9)), (3, (0, y3))], [(0, y3), (1, 277), (0, y3), (1, 276)], v1)) 1 rfl ?_
                refine e_Ok.ald (z := (S 0 y3)) rfl (el_o rfl) rfl (by omega) ((j12 277 y3 (by unfold mBb mTi mPm; omega)).trans (hK.2.2.1 y3 (by omega) (by omega))) (by omega) ?_
                refine e_Ok.run (t' := (70, [(0, (1, 275)), (1, (0, p1)), (2, (0, z9)), (3, (0, y3))], [(0, (S 0 y3)), (0, y3), (1, 276)], v1)) 1 rfl ?_
                refine e_Ok.ast rfl (el_o rfl) rfl rfl (by omega) ?_
                generalize hw48 : e_up v1 276 y3 ((S 0 y3)) = w48
                have f49 : e_fr mBb w w48 := e_fr.up j12 hw48 (by unfold mBb mTi mPm; omega)
                refine e_Ok.inc (z := y3 + 1) rfl rfl (by omega) (by omega) ?_
                show e_Ok 20 elay ecode eI (d + 1) 436 (74, [(3, (0, y3 + 1)), (0, (1, 275)), (1, (0, p1)), (2, (0, z9))], [], w48) _
                refine e_Ok.run (t' := (33, [(3, (0, y3 + 1)), (0, (1, 275)), (1, (0, p1)), (2, (0, z9))], [], w48)) 1 rfl ?_
                refine e_Ok.sub eAlk (e_sub_of rfl ?_) (ih11 (y3 + 1) w48 ⟨f49, by omega, (fun k g1 g2 => Decidable.byCases (p := k = y3) (fun e => by rw [e, ← hw48]; exact (e_up_eq _ _ _ _).trans hS0) (fun e => Eq.trans (show w48 276 k = v1 276 k from by rw [← hw48]; exact e_up_ne _ _ (Or.inr e)) (j14 k g1 (by omega)))), (fun c k q => Eq.trans (show w48 c k = v1 c k from by rw [← hw48]; exact e_up_ne _ _ (by omega)) (j15 c k (by omega)))⟩ (by omega))
                exact ⟨rfl, rfl, rfl, rfl, trivial⟩
        refine e_Ok.sub eAlk (e_sub_of rfl ?_) (hL10 (33061 + 1 : Int).toNat 0 w ⟨e_fr.refl w, by omega, (fun k g1 g2 => by omega), (fun c k _ => rfl)⟩ (by omega))
        exact ⟨rfl, rfl, rfl, rfl, trivial⟩
      · replace h8 : (w 275 3 : Int) = 0 := by have q : ¬ ((w 275 3 : Int) ≠ 0) := h8; omega
        refine e_Ok.run (t' := (25, [(0, (1, 275)), (1, (0, p1))], [(0, (-2))], w)) 1 rfl ?_
        refine e_Ok.rets rfl rfl ?_
        exact ⟨_, rfl, Or.inl rfl⟩
    · replace h6 : (1 : Int) = 0 := by have q : ¬ ((1 : Int) ≠ 0) := h6; omega
      exfalso; omega
  · show e_Ok 20 elay ecode eI (d + 1) 436 (11, [(0, (1, 275)), (1, (0, p1))], [(0, 0)], w) _
    refine e_Ok.if1 rfl (fun h50 => ?_) (fun h50 => ?_)
    · replace h50 : (0 : Int) ≠ 0 := h50
      exfalso; omega
    · replace h50 : (0 : Int) = 0 := by have q : ¬ ((0 : Int) ≠ 0) := h50; omega
      refine e_Ok.run (t' := (15, [(0, (1, 275)), (1, (0, p1))], [(0, (-1))], w)) 1 rfl ?_
      refine e_Ok.rets rfl rfl ?_
      exact ⟨_, rfl, Or.inl rfl⟩
end
