noncomputable section
theorem y01 {y : Int} (h0 : 0 ≤ y) (h1 : y ≤ 1) (h : y ≠ 0) : y = 1 := by omega
/-- the cell, with 'now' at s -/
def wn (w : eW) (s : Int → Int) : eW := fun c k => if c = 276 then s k else w c k
def runN (w : eW) : Nat → Int → Int
  | 0 => w 276
  | n + 1 => tickF (wn w (runN w n)) 276
theorem ti_K0 {c k : Int} (h : mTi c k) (q : K0 c k) : c = 276 := by
  rcases h with h | ⟨rfl, h⟩ | h | rfl | rfl | rfl
  · exact h
  · exfalso
    have e : k = 58 ∨ k = 59 ∨ k = 60 ∨ k = 96 ∨ k = 97 ∨ k = 98 ∨ k = 99 ∨ k = 100 ∨ k = 102 := by omega
    rcases e with rfl | rfl | rfl | rfl | rfl | rfl | rfl | rfl | rfl <;> exact absurd q (by decide : ¬ ((1 : Int) ≤ 0))
  · exfalso
    have e : c = 321 ∨ c = 322 ∨ c = 323 ∨ c = 324 ∨ c = 325 ∨ c = 326 ∨ c = 327 := by omega
    rcases e with rfl | rfl | rfl | rfl | rfl | rfl | rfl <;> exact absurd q (by decide : ¬ ((1 : Int) ≤ 0))
  · exact absurd q (by decide : ¬ ((1 : Int) ≤ 0))
  · exact absurd q (by decide : ¬ ((1 : Int) ≤ 0))
  · exact absurd q (by decide : ¬ ((1 : Int) ≤ 0))
theorem wn_low {w v : eW} {s : Int → Int} (hF : e_fr mTi w v) (hs : ∀ k, v 276 k = s k) : ∀ c k, K0 c k → v c k = wn w s c k := fun c k q => by
  unfold wn
  by_cases e : c = 276
  · rw [if_pos e, e]; exact hs k
  · rw [if_neg e]; exact hF c k (fun q1 => e (ti_K0 q1 q))
theorem runN_step {w v : eW} {n : Nat} (hF : e_fr mTi w v) (hs : ∀ k, v 276 k = runN w n k) (k : Int) : tickF v 276 k = runN w (n + 1) k := by
  show tickF v 276 k = tickF (wn w (runN w n)) 276 k
  rw [tickF_eq (wn_low hF hs)]
theorem no_9c_0 : ¬ mTi 275 5 := by unfold mTi; omega
theorem no_9c_1 : ¬ mTi 275 6 := by unfold mTi; omega
theorem no_9c_2 {k : Int} : ¬ mTi 356 k := by unfold mTi; omega
set_option maxHeartbeats 4000000 in
theorem c_426 {d : Nat} (hd : 45 ≤ d) {w : eW} {G : Int → Gh} (hI : mInv w G) (hB : bkE w) (hE : w 276 5 ≤ 7000000) {p1 : Int} (g1 : -2147483648 ≤ p1 ∧ p1 ≤ 2147483647) : e_Ok 20 elay ecode eI d 426 (0, [(0, (1, 275)), (1, (0, p1))], [], w) (fun r w' => ∃ z : Int, r = [(0, z)] ∧ ((w = w' ∧ ¬ ((1 ≤ p1 ∧ p1 ≤ 1000 ∧ w 275 3 = 1 ∧ w 276 0 ≠ 6000) ∧ ¬ mBk w)) ∨ ((1 ≤ p1 ∧ p1 ≤ 1000 ∧ w 275 3 = 1 ∧ w 276 0 ≠ 6000) ∧ ¬ mBk w ∧ opS w w' G 1 p1 0 0 (fun k => runN w (if p1 < 6000 - w 276 0 then p1 else 6000 - w 276 0).toNat k) ∧ evG w w'))) := by
  obtain ⟨d, rfl⟩ : ∃ e, d = e + 1 := ⟨d - 1, by omega⟩
  have htm := e_Has.get hI.1 (c := 276) (k := 0) (lo := 0) (hi := 6000) rfl (by decide)
  refine e_Ok.run (t' := (6, [(0, (1, 275)), (1, (0, p1))], [(4, 1000), (4, 1), (4, p1)], w)) 4 rfl ?_
  refine e_Ok.callS rfl (by omega) rfl rfl (c_266) (fun r1 w2 h3 => ?_)
  obtain ⟨z4, rfl, rfl, q5⟩ := h3
  obtain ⟨rfl, q5⟩ | ⟨rfl, q5⟩ := q5
  · show e_Ok 20 elay ecode eI (d + 1) 426 (9, [(0, (1, 275)), (1, (0, p1))], [(0, 1)], w) _
    refine e_Ok.if1 rfl (fun h6 => ?_) (fun h6 => ?_)
    · replace h6 : (1 : Int) ≠ 0 := h6
      refine e_Ok.run (t' := (15, [(0, (1, 275)), (1, (0, p1))], [(1, 275)], w)) 1 rfl ?_
      have h7 := (e_Has.get hI.1 (c := 275) (k := 3) (lo := 0) (hi := 1) rfl (by decide))
      refine e_Ok.getf (z := w 275 3) rfl (el_o rfl) rfl rfl rfl (by omega) ?_
      refine e_Ok.if1 rfl (fun h8 => ?_) (fun h8 => ?_)
      · replace h8 : (w 275 3 : Int) ≠ 0 := h8
        refine e_Ok.run (t' := (25, [(0, (1, 275)), (1, (0, p1))], [(1, 275)], w)) 1 rfl ?_
        refine e_Ok.getr (z := 276) rfl (el_o rfl) rfl rfl (e_Has.eq hI.1 rfl) (by omega) ?_
        refine e_Ok.run (t' := (29, [(0, (1, 275)), (1, (0, p1))], [(0, 0), (1, 276)], w)) 1 rfl ?_
        refine e_Ok.ald (z := w 276 0) rfl (el_o rfl) rfl (by omega) rfl (by omega) ?_
        refine e_Ok.run (t' := (33, [(0, (1, 275)), (1, (0, p1))], [(0, 6000), (0, w 276 0)], w)) 1 rfl ?_
        refine e_Ok.if2 rfl (fun h9 => ?_) (fun h9 => ?_)
        · replace h9 : (w 276 0 : Int) = 6000 := h9
          refine e_Ok.run (t' := (45, [(0, (1, 275)), (1, (0, p1))], [(0, (-3))], w)) 1 rfl ?_
          refine e_Ok.rets rfl rfl ?_
          exact ⟨_, rfl, Or.inl ⟨rfl, fun hc => by first | exact hc.2 (by assumption) | (have h1 := hc.1; omega)⟩⟩
        · replace h9 : (w 276 0 : Int) ≠ 6000 := by have q : ¬ ((w 276 0 : Int) = 6000) := h9; omega
          refine e_Ok.run (t' := (37, [(0, (1, 275)), (1, (0, p1))], [(1, 275)], w)) 1 rfl ?_
          refine e_Ok.callV rfl (by omega) rfl rfl rfl rfl (c_422_x hI.1 hB) (fun r10 w11 h12 => ?_)
          obtain ⟨z13, rfl, rfl, q14⟩ := h12
          obtain ⟨rfl, q14⟩ | ⟨rfl, q14⟩ := q14
          · show e_Ok 20 elay ecode eI (d + 1) 426 (40, [(0, (1, 275)), (1, (0, p1))], [(0, 1)], w) _
            refine e_Ok.if1 rfl (fun h15 => ?_) (fun h15 => ?_)
            · replace h15 : (1 : Int) = 0 := h15
              exfalso; omega
            · replace h15 : (1 : Int) ≠ 0 := by have q : ¬ ((1 : Int) = 0) := h15; omega
              refine e_Ok.run (t' := (45, [(0, (1, 275)), (1, (0, p1))], [(0, (-3))], w)) 1 rfl ?_
              refine e_Ok.rets rfl rfl ?_
              exact ⟨_, rfl, Or.inl ⟨rfl, fun hc => by first | exact hc.2 (by assumption) | (have h1 := hc.1; omega)⟩⟩
          · show e_Ok 20 elay ecode eI (d + 1) 426 (40, [(0, (1, 275)), (1, (0, p1))], [(0, 0)], w) _
            refine e_Ok.if1 rfl (fun h16 => ?_) (fun h16 => ?_)
            · replace h16 : (0 : Int) = 0 := h16
              refine e_Ok.run (t' := (51, [(0, (1, 275)), (1, (0, p1))], [(1, 275), (0, 6000), (0, p1)], w)) 3 rfl ?_
              refine e_Ok.getr (z := 276) rfl (el_o rfl) rfl rfl (e_Has.eq hI.1 rfl) (by omega) ?_
              refine e_Ok.run (t' := (55, [(0, (1, 275)), (1, (0, p1))], [(0, 0), (1, 276), (0, 6000), (0, p1)], w)) 1 rfl ?_
              refine e_Ok.ald (z := w 276 0) rfl (el_o rfl) rfl (by omega) rfl (by omega) ?_
              refine e_Ok.sub' (z := -w 276 0 + 6000) rfl (by omega) (by omega) ?_
              refine e_Ok.if2 rfl (fun h17 => ?_) (fun h17 => ?_)
              · replace h17 : (p1 : Int) ≥ -w 276 0 + 6000 := h17
                refine e_Ok.run (t' := (68, [(0, (1, 275)), (1, (0, p1))], [(1, 275), (0, 6000)], w)) 2 rfl ?_
                refine e_Ok.getr (z := 276) rfl (el_o rfl) rfl rfl (e_Has.eq hI.1 rfl) (by omega) ?_
                refine e_Ok.run (t' := (72, [(0, (1, 275)), (1, (0, p1))], [(0, 0), (1, 276), (0, 6000)], w)) 1 rfl ?_
                refine e_Ok.ald (z := w 276 0) rfl (el_o rfl) rfl (by omega) rfl (by omega) ?_
                refine e_Ok.sub' (z := -w 276 0 + 6000) rfl (by omega) (by omega) ?_
                refine e_Ok.run (t' := (75, [(2, (0, -w 276 0 + 6000)), (0, (1, 275)), (1, (0, p1))], [], w)) 1 rfl ?_
                refine e_Ok.run (t' := (77, [(3, (0, 0)), (2, (0, -w 276 0 + 6000)), (0, (1, 275)), (1, (0, p1))], [], w)) 2 rfl ?_
                have hL18 : ∀ (nn : Nat) (y3 : Int) (v1 : eW), e_fr mTi w v1 ∧ e_Has mTy v1 ∧ mInv v1 G ∧ v1 276 0 = w 276 0 + y3 ∧ (w 276 5 ≤ v1 276 5 ∧ v1 276 5 ≤ w 276 5 + 900 * y3) ∧ ((0 ≤ y3 ∧ y3 ≤ 1000 ∧ y3 ≤ -w 276 0 + 6000)) ∧ (∀ k, v1 276 k = runN w y3.toNat k) → 1001 - y3 < nn → e_Ok 20 elay ecode eI (d + 1) 426 (77, [(0, (1, 275)), (1, (0, p1)), (2, (0, -w 276 0 + 6000)), (3, (0, y3))], [], v1) (fun r w' => ∃ z : Int, r = [(0, z)] ∧ ((w = w' ∧ ¬ ((1 ≤ p1 ∧ p1 ≤ 1000 ∧ w 275 3 = 1 ∧ w 276 0 ≠ 6000) ∧ ¬ mBk w)) ∨ ((1 ≤ p1 ∧ p1 ≤ 1000 ∧ w 275 3 = 1 ∧ w 276 0 ≠ 6000) ∧ ¬ mBk w ∧ opS w w' G 1 p1 0 0 (fun k => runN w (if p1 < 6000 - w 276 0 then p1 else 6000 - w 276 0).toNat k) ∧ evG w w'))) := by
                  intro nn
                  induction nn with
                  | zero => intro y3 v1 hj hm; obtain ⟨j20, j21, j22, j23, j24, j25, j26⟩ := hj; exfalso; omega
                  | succ nn ih19 =>
                    intro y3 v1 hj hm
                    obtain ⟨j20, j21, j22, j23, j24, j25, j26⟩ := hj
                    refine e_Ok.run (t' := (79, [(0, (1, 275)), (1, (0, p1)), (2, (0, -w 276 0 + 6000)), (3, (0, y3))], [(0, -w 276 0 + 6000), (0, y3)], v1)) 2 rfl ?_
                    refine e_Ok.if2 rfl (fun h27 => ?_) (fun h27 => ?_)
                    · replace h27 : (y3 : Int) ≥ -w 276 0 + 6000 := h27
                      refine e_Ok.run (t' := (97, [(0, (1, 275)), (1, (0, p1)), (2, (0, -w 276 0 + 6000)), (3, (0, y3))], [(0, 0), (0, 0), (0, p1), (0, 1), (1, 275)], v1)) 5 rfl ?_
                      refine e_Ok.callV rfl (by omega) rfl rfl rfl rfl (c_423_u (by omega) j21 (bkE.fr hB (j20 275 5 no_9c_0) (j20 275 6 no_9c_1) (fun k => j20 356 k no_9c_2)).1 (fun e => by have e5 : v1 275 5 = w 275 5 := j20 275 5 no_9c_0; have e6 : v1 275 6 = w 275 6 := j20 275 6 no_9c_1; have h1 := hB.1; have h2 := (show ¬ mBk w by assumption); unfold mBk at h2; omega) (by decide) (fun e => by omega)) (fun r28 w29 h30 => ?_)
                      obtain ⟨rfl, q31⟩ := h30
                      show e_Ok 20 elay ecode eI (d + 1) 426 (100, [(0, (1, 275)), (1, (0, p1)), (2, (0, -w 276 0 + 6000)), (3, (0, y3))], [], w29) _
                      refine e_Ok.run (t' := (101, [(0, (1, 275)), (1, (0, p1)), (2, (0, -w 276 0 + 6000)), (3, (0, y3))], [(0, -w 276 0 + 6000)], w29)) 1 rfl ?_
                      refine e_Ok.rets rfl rfl ?_
                      have ek0 : v1 276 0 = v1 276 0 := rfl
                      have ek5 : v1 276 5 = v1 276 5 := rfl
                      exact ⟨_, rfl, Or.inr ⟨⟨by omega, by omega, by omega, by omega⟩, by assumption, opS.ev (wm := v1) (opS.of j20 j22 (fun k => by show v1 276 k = runN w (if p1 < 6000 - w 276 0 then p1 else 6000 - w 276 0).toNat k; rw [if_neg (by omega), show 6000 - w 276 0 = y3 by omega]; exact j26 k) q31) (fun k => by show v1 276 k = runN w (if p1 < 6000 - w 276 0 then p1 else 6000 - w 276 0).toNat k; rw [if_neg (by omega), show 6000 - w 276 0 = y3 by omega]; exact j26 k) (by unfold evG; omega)⟩⟩
                    · replace h27 : (y3 : Int) < -w 276 0 + 6000 := by have q : ¬ ((y3 : Int) ≥ -w 276 0 + 6000) := h27; omega
                      refine e_Ok.run (t' := (83, [(0, (1, 275)), (1, (0, p1)), (2, (0, -w 276 0 + 6000)), (3, (0, y3))], [(1, 275)], v1)) 1 rfl ?_
                      refine e_Ok.callV rfl (by omega) rfl rfl rfl rfl (d_408 (by omega) j22 (by omega) (by omega)) (fun r32 w33 h34 => ?_)
                      obtain ⟨rfl, q35, q35I, q35t, q35n, q35x⟩ := h34
                      have f36 : e_fr mTi w w33 := e_fr.trans j20 (e_fr.mono q35 (fun c k q => by exact q))
                      show e_Ok 20 elay ecode eI (d + 1) 426 (86, [(0, (1, 275)), (1, (0, p1)), (2, (0, -w 276 0 + 6000)), (3, (0, y3))], [], w33) _
                      refine e_Ok.inc (z := y3 + 1) rfl rfl (by omega) (by omega) ?_
                      show e_Ok 20 elay ecode eI (d + 1) 426 (89, [(3, (0, y3 + 1)), (0, (1, 275)), (1, (0, p1)), (2, (0, -w 276 0 + 6000))], [], w33) _
                      refine e_Ok.run (t' := (77, [(3, (0, y3 + 1)), (0, (1, 275)), (1, (0, p1)), (2, (0, -w 276 0 + 6000))], [], w33)) 1 rfl ?_
                      refine e_Ok.sub eAlk (e_sub_of rfl ?_) (ih19 (y3 + 1) w33 ⟨f36, q35I.1, q35I, by omega, by omega, by omega, (fun k => Eq.trans (q35x k) (by rw [show (y3 + 1).toNat = y3.toNat + 1 by omega]; exact runN_step j20 j26 k))⟩ (by omega))
                      exact ⟨rfl, rfl, rfl, rfl, trivial⟩
                refine e_Ok.sub eAlk (e_sub_of rfl ?_) (hL18 (1001 + 1 : Int).toNat 0 w ⟨(e_fr.refl w), hI.1, hI, by omega, by omega, by omega, (fun k => rfl)⟩ (by omega))
                exact ⟨rfl, rfl, rfl, rfl, trivial⟩
              · replace h17 : (p1 : Int) < -w 276 0 + 6000 := by have q : ¬ ((p1 : Int) ≥ -w 276 0 + 6000) := h17; omega
                refine e_Ok.run (t' := (75, [(2, (0, p1)), (0, (1, 275)), (1, (0, p1))], [], w)) 3 rfl ?_
                refine e_Ok.run (t' := (77, [(3, (0, 0)), (2, (0, p1)), (0, (1, 275)), (1, (0, p1))], [], w)) 2 rfl ?_
                have hL37 : ∀ (nn : Nat) (y3 : Int) (v1 : eW), e_fr mTi w v1 ∧ e_Has mTy v1 ∧ mInv v1 G ∧ v1 276 0 = w 276 0 + y3 ∧ (w 276 5 ≤ v1 276 5 ∧ v1 276 5 ≤ w 276 5 + 900 * y3) ∧ ((0 ≤ y3 ∧ y3 ≤ 1000 ∧ y3 ≤ p1)) ∧ (∀ k, v1 276 k = runN w y3.toNat k) → 1001 - y3 < nn → e_Ok 20 elay ecode eI (d + 1) 426 (77, [(0, (1, 275)), (1, (0, p1)), (2, (0, p1)), (3, (0, y3))], [], v1) (fun r w' => ∃ z : Int, r = [(0, z)] ∧ ((w = w' ∧ ¬ ((1 ≤ p1 ∧ p1 ≤ 1000 ∧ w 275 3 = 1 ∧ w 276 0 ≠ 6000) ∧ ¬ mBk w)) ∨ ((1 ≤ p1 ∧ p1 ≤ 1000 ∧ w 275 3 = 1 ∧ w 276 0 ≠ 6000) ∧ ¬ mBk w ∧ opS w w' G 1 p1 0 0 (fun k => runN w (if p1 < 6000 - w 276 0 then p1 else 6000 - w 276 0).toNat k) ∧ evG w w'))) := by
                  intro nn
                  induction nn with
                  | zero => intro y3 v1 hj hm; obtain ⟨j40, j41, j42, j43, j44, j45, j46⟩ := hj; exfalso; omega
                  | succ nn ih38 =>
                    intro y3 v1 hj hm
                    obtain ⟨j40, j41, j42, j43, j44, j45, j46⟩ := hj
                    refine e_Ok.run (t' := (79, [(0, (1, 275)), (1, (0, p1)), (2, (0, p1)), (3, (0, y3))], [(0, p1), (0, y3)], v1)) 2 rfl ?_
                    refine e_Ok.if2 rfl (fun h47 => ?_) (fun h47 => ?_)
                    · replace h47 : (y3 : Int) ≥ p1 := h47
                      refine e_Ok.run (t' := (97, [(0, (1, 275)), (1, (0, p1)), (2, (0, p1)), (3, (0, y3))], [(0, 0), (0, 0), (0, p1), (0, 1), (1, 275)], v1)) 5 rfl ?_
                      refine e_Ok.callV rfl (by omega) rfl rfl rfl rfl (c_423_u (by omega) j41 (bkE.fr hB (j40 275 5 no_9c_0) (j40 275 6 no_9c_1) (fun k => j40 356 k no_9c_2)).1 (fun e => by have e5 : v1 275 5 = w 275 5 := j40 275 5 no_9c_0; have e6 : v1 275 6 = w 275 6 := j40 275 6 no_9c_1; have h1 := hB.1; have h2 := (show ¬ mBk w by assumption); unfold mBk at h2; omega) (by decide) (fun e => by omega)) (fun r48 w49 h50 => ?_)
                      obtain ⟨rfl, q51⟩ := h50
                      show e_Ok 20 elay ecode eI (d + 1) 426 (100, [(0, (1, 275)), (1, (0, p1)), (2, (0, p1)), (3, (0, y3))], [], w49) _
                      refine e_Ok.run (t' := (101, [(0, (1, 275)), (1, (0, p1)), (2, (0, p1)), (3, (0, y3))], [(0, p1)], w49)) 1 rfl ?_
                      refine e_Ok.rets rfl rfl ?_
                      have ek0 : v1 276 0 = v1 276 0 := rfl
                      have ek5 : v1 276 5 = v1 276 5 := rfl
                      exact ⟨_, rfl, Or.inr ⟨⟨by omega, by omega, by omega, by omega⟩, by assumption, opS.ev (wm := v1) (opS.of j40 j42 (fun k => by show v1 276 k = runN w (if p1 < 6000 - w 276 0 then p1 else 6000 - w 276 0).toNat k; rw [if_pos (by omega), show p1 = y3 by omega]; exact j46 k) q51) (fun k => by show v1 276 k = runN w (if p1 < 6000 - w 276 0 then p1 else 6000 - w 276 0).toNat k; rw [if_pos (by omega), show p1 = y3 by omega]; exact j46 k) (by unfold evG; omega)⟩⟩
                    · replace h47 : (y3 : Int) < p1 := by have q : ¬ ((y3 : Int) ≥ p1) := h47; omega
                      refine e_Ok.run (t' := (83, [(0, (1, 275)), (1, (0, p1)), (2, (0, p1)), (3, (0, y3))], [(1, 275)], v1)) 1 rfl ?_
                      refine e_Ok.callV rfl (by omega) rfl rfl rfl rfl (d_408 (by omega) j42 (by omega) (by omega)) (fun r52 w53 h54 => ?_)
                      obtain ⟨rfl, q55, q55I, q55t, q55n, q55x⟩ := h54
                      have f56 : e_fr mTi w w53 := e_fr.trans j40 (e_fr.mono q55 (fun c k q => by exact q))
                      show e_Ok 20 elay ecode eI (d + 1) 426 (86, [(0, (1, 275)), (1, (0, p1)), (2, (0, p1)), (3, (0, y3))], [], w53) _
                      refine e_Ok.inc (z := y3 + 1) rfl rfl (by omega) (by omega) ?_
                      show e_Ok 20 elay ecode eI (d + 1) 426 (89, [(3, (0, y3 + 1)), (0, (1, 275)), (1, (0, p1)), (2, (0, p1))], [], w53) _
                      refine e_Ok.run (t' := (77, [(3, (0, y3 + 1)), (0, (1, 275)), (1, (0, p1)), (2, (0, p1))], [], w53)) 1 rfl ?_
                      refine e_Ok.sub eAlk (e_sub_of rfl ?_) (ih38 (y3 + 1) w53 ⟨f56, q55I.1, q55I, by omega, by omega, by omega, (fun k => Eq.trans (q55x k) (by rw [show (y3 + 1).toNat = y3.toNat + 1 by omega]; exact runN_step j40 j46 k))⟩ (by omega))
                      exact ⟨rfl, rfl, rfl, rfl, trivial⟩
                refine e_Ok.sub eAlk (e_sub_of rfl ?_) (hL37 (1001 + 1 : Int).toNat 0 w ⟨(e_fr.refl w), hI.1, hI, by omega, by omega, by omega, (fun k => rfl)⟩ (by omega))
                exact ⟨rfl, rfl, rfl, rfl, trivial⟩
            · replace h16 : (0 : Int) ≠ 0 := by have q : ¬ ((0 : Int) = 0) := h16; omega
              exfalso; omega
      · replace h8 : (w 275 3 : Int) = 0 := by have q : ¬ ((w 275 3 : Int) ≠ 0) := h8; omega
        refine e_Ok.run (t' := (23, [(0, (1, 275)), (1, (0, p1))], [(0, (-2))], w)) 1 rfl ?_
        refine e_Ok.rets rfl rfl ?_
        exact ⟨_, rfl, Or.inl ⟨rfl, fun hc => by first | exact hc.2 (by assumption) | (have h1 := hc.1; omega)⟩⟩
    · replace h6 : (1 : Int) = 0 := by have q : ¬ ((1 : Int) ≠ 0) := h6; omega
      exfalso; omega
  · show e_Ok 20 elay ecode eI (d + 1) 426 (9, [(0, (1, 275)), (1, (0, p1))], [(0, 0)], w) _
    refine e_Ok.if1 rfl (fun h57 => ?_) (fun h57 => ?_)
    · replace h57 : (0 : Int) ≠ 0 := h57
      exfalso; omega
    · replace h57 : (0 : Int) = 0 := by have q : ¬ ((0 : Int) ≠ 0) := h57; omega
      refine e_Ok.run (t' := (13, [(0, (1, 275)), (1, (0, p1))], [(0, (-1))], w)) 1 rfl ?_
      refine e_Ok.rets rfl rfl ?_
      exact ⟨_, rfl, Or.inl ⟨rfl, fun hc => by first | exact hc.2 (by assumption) | (have h1 := hc.1; omega)⟩⟩
set_option maxHeartbeats 4000000 in
theorem c_425 {d : Nat} (hd : 27 ≤ d) {w : eW} {G : Int → Gh} (hI : mInv w G) (hB : bkE w) (hE : w 276 5 ≤ 7000000) {p1 p2 : Int} (g1 : -2147483648 ≤ p1 ∧ p1 ≤ 2147483647) (g2 : -2147483648 ≤ p2 ∧ p2 ≤ 2147483647) : e_Ok 20 elay ecode eI d 425 (0, [(0, (1, 275)), (1, (0, p1)), (2, (0, p2))], [], w) (fun r w' => ∃ z : Int, r = [(0, z)] ∧ ((w = w' ∧ ¬ (((0 ≤ p1 ∧ p1 < w 275 10 ∧ 0 ≤ p2 ∧ p2 < w 338 p1 ∧ w 275 3 = 1) ∧ ∃ t, 0 ≤ t ∧ t ≤ 15 ∧ (w 276 (1260 * t + 416) = 0 ∨ w 276 (1260 * t + 416) = 6)) ∧ ¬ mBk w)) ∨ (((0 ≤ p1 ∧ p1 < w 275 10 ∧ 0 ≤ p2 ∧ p2 < w 338 p1 ∧ w 275 3 = 1) ∧ ∃ t, 0 ≤ t ∧ t ≤ 15 ∧ (w 276 (1260 * t + 416) = 0 ∨ w 276 (1260 * t + 416) = 6)) ∧ ¬ mBk w ∧ opS w w' G 0 p1 p2 0 (nowF 359 [(0, (1, 275)), (1, (0, p1)), (2, (0, p2))] w) ∧ evG w w'))) := by
  obtain ⟨d, rfl⟩ : ∃ e, d = e + 1 := ⟨d - 1, by omega⟩
  have htm := e_Has.get hI.1 (c := 276) (k := 0) (lo := 0) (hi := 6000) rfl (by decide)
  refine e_Ok.run (t' := (2, [(0, (1, 275)), (1, (0, p1)), (2, (0, p2))], [(0, p1), (1, 275)], w)) 2 rfl ?_
  refine e_Ok.callV rfl (by omega) rfl rfl rfl rfl (c_270 (by omega) hI.1) (fun r1 w2 h3 => ?_)
  have h4 := e_Has.get hI.1 (c := 275) (k := 10) (lo := 0) (hi := 4) rfl (by decide)
  obtain ⟨z5, rfl, rfl, q6⟩ := h3
  obtain ⟨rfl, q6⟩ | ⟨rfl, q6⟩ := q6
  · show e_Ok 20 elay ecode eI (d + 1) 425 (5, [(0, (1, 275)), (1, (0, p1)), (2, (0, p2))], [(0, 1)], w) _
    refine e_Ok.if1 rfl (fun h7 => ?_) (fun h7 => ?_)
    · replace h7 : (1 : Int) = 0 := h7
      exfalso; omega
    · replace h7 : (1 : Int) ≠ 0 := by have q : ¬ ((1 : Int) = 0) := h7; omega
      refine e_Ok.run (t' := (12, [(0, (1, 275)), (1, (0, p1)), (2, (0, p2))], [(1, 275), (4, 0), (4, p2)], w)) 4 rfl ?_
      refine e_Ok.getr (z := 338) rfl (el_o rfl) rfl rfl (e_Has.eq hI.1 rfl) (by omega) ?_
      refine e_Ok.run (t' := (16, [(0, (1, 275)), (1, (0, p1)), (2, (0, p2))], [(0, p1), (1, 338), (4, 0), (4, p2)], w)) 1 rfl ?_
      have h8 := (e_Has.get hI.1 (c := 338) (k := p1) (lo := 0) (hi := 32) rfl (by decide))
      refine e_Ok.ald (z := w 338 p1) rfl (el_o rfl) rfl (by omega) rfl (by omega) ?_
      refine e_Ok.run (t' := (18, [(0, (1, 275)), (1, (0, p1)), (2, (0, p2))], [(0, 1), (0, w 338 p1), (4, 0), (4, p2)], w)) 1 rfl ?_
      refine e_Ok.sub' (z := w 338 p1 - 1) rfl (by omega) (by omega) ?_
      refine e_Ok.run (t' := (20, [(0, (1, 275)), (1, (0, p1)), (2, (0, p2))], [(4, w 338 p1 - 1), (4, 0), (4, p2)], w)) 1 rfl ?_
      refine e_Ok.callS rfl (by omega) rfl rfl (c_266) (fun r9 w10 h11 => ?_)
      obtain ⟨z12, rfl, rfl, q13⟩ := h11
      obtain ⟨rfl, q13⟩ | ⟨rfl, q13⟩ := q13
      · show e_Ok 20 elay ecode eI (d + 1) 425 (23, [(0, (1, 275)), (1, (0, p1)), (2, (0, p2))], [(0, 1)], w) _
        refine e_Ok.if1 rfl (fun h14 => ?_) (fun h14 => ?_)
        · replace h14 : (1 : Int) ≠ 0 := h14
          refine e_Ok.run (t' := (29, [(0, (1, 275)), (1, (0, p1)), (2, (0, p2))], [(1, 275)], w)) 1 rfl ?_
          have h15 := (e_Has.get hI.1 (c := 275) (k := 3) (lo := 0) (hi := 1) rfl (by decide))
          refine e_Ok.getf (z := w 275 3) rfl (el_o rfl) rfl rfl rfl (by omega) ?_
          refine e_Ok.if1 rfl (fun h16 => ?_) (fun h16 => ?_)
          · replace h16 : (w 275 3 : Int) ≠ 0 := h16
            have hcond : (0 ≤ p1 ∧ p1 < w 275 10 ∧ 0 ≤ p2 ∧ p2 < w 338 p1 ∧ w 275 3 = 1) := by omega
            refine e_Ok.run (t' := (43, [(4, (0, 0)), (3, (0, 0)), (0, (1, 275)), (1, (0, p1)), (2, (0, p2))], [], w)) 4 rfl ?_
            have hL17 : ∀ (nn : Nat) (y3 : Int) (y4 : Int), (0 ≤ y3 ∧ y3 ≤ 1 ∧ 0 ≤ y4 ∧ y4 ≤ 16) ∧ ((y3 = 0 → ∀ t, 0 ≤ t → t < y4 → w 276 (1260 * t + 416) ≠ 0 ∧ w 276 (1260 * t + 416) ≠ 6)) ∧ ((y3 = 1 → ∃ t, 0 ≤ t ∧ t ≤ 15 ∧ (w 276 (1260 * t + 416) = 0 ∨ w 276 (1260 * t + 416) = 6))) → 17 - y4 < nn → e_Ok 20 elay ecode eI (d + 1) 425 (43, [(0, (1, 275)), (1, (0, p1)), (2, (0, p2)), (3, (0, y3)), (4, (0, y4))], [], w) (fun r w' => ∃ z : Int, r = [(0, z)] ∧ ((w = w' ∧ ¬ (((0 ≤ p1 ∧ p1 < w 275 10 ∧ 0 ≤ p2 ∧ p2 < w 338 p1 ∧ w 275 3 = 1) ∧ ∃ t, 0 ≤ t ∧ t ≤ 15 ∧ (w 276 (1260 * t + 416) = 0 ∨ w 276 (1260 * t + 416) = 6)) ∧ ¬ mBk w)) ∨ (((0 ≤ p1 ∧ p1 < w 275 10 ∧ 0 ≤ p2 ∧ p2 < w 338 p1 ∧ w 275 3 = 1) ∧ ∃ t, 0 ≤ t ∧ t ≤ 15 ∧ (w 276 (1260 * t + 416) = 0 ∨ w 276 (1260 * t + 416) = 6)) ∧ ¬ mBk w ∧ opS w w' G 0 p1 p2 0 (nowF 359 [(0, (1, 275)), (1, (0, p1)), (2, (0, p2))] w) ∧ evG w w'))) := by
              intro nn
              induction nn with
              | zero => intro y3 y4 hj hm; obtain ⟨j19, j20, j21⟩ := hj; exfalso; omega
              | succ nn ih18 =>
                intro y3 y4 hj hm
                obtain ⟨j19, j20, j21⟩ := hj
                refine e_Ok.run (t' := (47, [(0, (1, 275)), (1, (0, p1)), (2, (0, p2)), (3, (0, y3)), (4, (0, y4))], [(0, 16), (0, y4)], w)) 2 rfl ?_
                refine e_Ok.if2 rfl (fun h22 => ?_) (fun h22 => ?_)
                · replace h22 : (y4 : Int) ≥ 16 := h22
                  refine e_Ok.run (t' := (93, [(0, (1, 275)), (1, (0, p1)), (2, (0, p2)), (3, (0, y3)), (4, (0, y4))], [(0, y3)], w)) 1 rfl ?_
                  refine e_Ok.if1 rfl (fun h23 => ?_) (fun h23 => ?_)
                  · replace h23 : (y3 : Int) = 0 := h23
                    refine e_Ok.run (t' := (105, [(0, (1, 275)), (1, (0, p1)), (2, (0, p2)), (3, (0, y3)), (4, (0, y4))], [(0, (-3))], w)) 1 rfl ?_
                    refine e_Ok.rets rfl rfl ?_
                    exact ⟨_, rfl, Or.inl ⟨rfl, fun hc => by first | exact hc.2 (by assumption) | (obtain ⟨t, t1, t2, t3⟩ := hc.1.2; have h1 := j20 (by omega) t t1 (by omega); omega)⟩⟩
                  · replace h23 : (y3 : Int) ≠ 0 := by have q : ¬ ((y3 : Int) = 0) := h23; omega
                    have hy3 : y3 = 1 := y01 j19.1 j19.2.1 (by assumption)
                    refine e_Ok.run (t' := (97, [(0, (1, 275)), (1, (0, p1)), (2, (0, p2)), (3, (0, y3)), (4, (0, y4))], [(1, 275)], w)) 1 rfl ?_
                    refine e_Ok.callV rfl (by omega) rfl rfl rfl rfl (c_422_x hI.1 hB) (fun r24 w25 h26 => ?_)
                    obtain ⟨z27, rfl, rfl, q28⟩ := h26
                    obtain ⟨rfl, q28⟩ | ⟨rfl, q28⟩ := q28
                    · show e_Ok 20 elay ecode eI (d + 1) 425 (100, [(0, (1, 275)), (1, (0, p1)), (2, (0, p2)), (3, (0, y3)), (4, (0, y4))], [(0, 1)], w) _
                      refine e_Ok.if1 rfl (fun h29 => ?_) (fun h29 => ?_)
                      · replace h29 : (1 : Int) = 0 := h29
                        exfalso; omega
                      · replace h29 : (1 : Int) ≠ 0 := by have q : ¬ ((1 : Int) = 0) := h29; omega
                        refine e_Ok.run (t' := (105, [(0, (1, 275)), (1, (0, p1)), (2, (0, p2)), (3, (0, y3)), (4, (0, y4))], [(0, (-3))], w)) 1 rfl ?_
                        refine e_Ok.rets rfl rfl ?_
                        exact ⟨_, rfl, Or.inl ⟨rfl, fun hc => by first | exact hc.2 (by assumption) | (obtain ⟨t, t1, t2, t3⟩ := hc.1.2; have h1 := j20 (by omega) t t1 (by omega); omega)⟩⟩
                    · show e_Ok 20 elay ecode eI (d + 1) 425 (100, [(0, (1, 275)), (1, (0, p1)), (2, (0, p2)), (3, (0, y3)), (4, (0, y4))], [(0, 0)], w) _
                      refine e_Ok.if1 rfl (fun h30 => ?_) (fun h30 => ?_)
                      · replace h30 : (0 : Int) = 0 := h30
                        refine e_Ok.run (t' := (109, [(0, (1, 275)), (1, (0, p1)), (2, (0, p2)), (3, (0, y3)), (4, (0, y4))], [(0, p2), (0, p1), (1, 275)], w)) 3 rfl ?_
                        have hrt := (hI.2.2.2.2.2.2.2.1 p1 (by omega) (by omega)).2.2.2.2.2.2 p2 (by omega) (by omega)
                        have hrc := (hI.2.2.2.2.2.2.2.1 p1 (by omega) (by omega)).1
                        unfold tgt at hrt
                        refine e_Ok.callV rfl (by omega) rfl rfl rfl rfl (d_359 (by omega) hI.1 (by omega) (by omega) (by omega) htm.2) (fun r31 w32 h33 => ?_)
                        obtain ⟨⟨z35, rfl, q34c⟩, q34x⟩ := h33
                        obtain ⟨rfl, rfl⟩ | ⟨q34z, q34s, q34, q34T, q341, q342, q343, q344, q345, q346, q347⟩ := q34c
                        · show e_Ok 20 elay ecode eI (d + 1) 425 (112, [(0, (1, 275)), (1, (0, p1)), (2, (0, p2)), (3, (0, y3)), (4, (0, y4))], [(0, (-1))], w) _
                          refine e_Ok.run (t' := (119, [(4, (0, (-1))), (0, (1, 275)), (1, (0, p1)), (2, (0, p2)), (3, (0, y3))], [(0, 0), (0, p2), (0, p1), (0, 0), (1, 275)], w)) 6 rfl ?_
                          refine e_Ok.callV rfl (by omega) rfl rfl rfl rfl (c_423_u (by omega) hI.1 hB (fun e => by have e5 : w 275 5 = w 275 5 := rfl; have e6 : w 275 6 = w 275 6 := rfl; have h1 := hB.1; have h2 := (show ¬ mBk w by assumption); unfold mBk at h2; omega) (by decide) (fun e => by omega)) (fun r36 w37 h38 => ?_)
                          obtain ⟨rfl, q40⟩ := h38
                          show e_Ok 20 elay ecode eI (d + 1) 425 (122, [(4, (0, (-1))), (0, (1, 275)), (1, (0, p1)), (2, (0, p2)), (3, (0, y3))], [], w37) _
                          refine e_Ok.run (t' := (124, [(4, (0, (-1))), (0, (1, 275)), (1, (0, p1)), (2, (0, p2)), (3, (0, y3))], [(0, (-1))], w37)) 1 rfl ?_
                          refine e_Ok.rets rfl rfl ?_
                          exact ⟨_, rfl, Or.inr ⟨⟨hcond, j21 hy3⟩, by assumption, opS.ev (wm := w) (opS.of (e_fr.refl w) hI q34x q40) q34x (by unfold evG; omega)⟩⟩
                        · show e_Ok 20 elay ecode eI (d + 1) 425 (112, [(0, (1, 275)), (1, (0, p1)), (2, (0, p2)), (3, (0, y3)), (4, (0, y4))], [(0, z35)], w32) _
                          have f41 : e_fr mTi w w32 := e_fr.trans (e_fr.refl w) (e_fr.mono q34 (fun c k q => by exact nt_ti q))
                          have hI42 : mInv w32 G := mInv.fresh hI (by omega) (by omega) q34z q34 q34T q342 q343 q344 q345 q346
                          have q34o := q34 276 0 (by unfold mNt; omega)
                          have q34p := q34 276 5 (by unfold mNt; omega)
                          refine e_Ok.run (t' := (119, [(4, (0, z35)), (0, (1, 275)), (1, (0, p1)), (2, (0, p2)), (3, (0, y3))], [(0, 0), (0, p2), (0, p1), (0, 0), (1, 275)], w32)) 6 rfl ?_
                          refine e_Ok.callV rfl (by omega) rfl rfl rfl rfl (c_423_u (by omega) q34T (bkE.fr hB (f41 275 5 no_9c_0) (f41 275 6 no_9c_1) (fun k => f41 356 k no_9c_2)).1 (fun e => by have e5 : w32 275 5 = w 275 5 := f41 275 5 no_9c_0; have e6 : w32 275 6 = w 275 6 := f41 275 6 no_9c_1; have h1 := hB.1; have h2 := (show ¬ mBk w by assumption); unfold mBk at h2; omega) (by decide) (fun e => by omega)) (fun r43 w44 h45 => ?_)
                          obtain ⟨rfl, q46⟩ := h45
                          show e_Ok 20 elay ecode eI (d + 1) 425 (122, [(4, (0, z35)), (0, (1, 275)), (1, (0, p1)), (2, (0, p2)), (3, (0, y3))], [], w44) _
                          refine e_Ok.run (t' := (124, [(4, (0, z35)), (0, (1, 275)), (1, (0, p1)), (2, (0, p2)), (3, (0, y3))], [(0, z35)], w44)) 1 rfl ?_
                          refine e_Ok.rets rfl rfl ?_
                          have ek0 : w32 276 0 = w 276 0 := ((q34 276 0 (by unfold mNt; omega)).trans rfl)
                          have ek5 : w32 276 5 = w 276 5 := ((q34 276 5 (by unfold mNt; omega)).trans rfl)
                          exact ⟨_, rfl, Or.inr ⟨⟨hcond, j21 hy3⟩, by assumption, opS.ev (wm := w32) (opS.of f41 hI42 q34x q46) q34x (by unfold evG; omega)⟩⟩
                      · replace h30 : (0 : Int) ≠ 0 := by have q : ¬ ((0 : Int) = 0) := h30; omega
                        exfalso; omega
                · replace h22 : (y4 : Int) < 16 := by have q : ¬ ((y4 : Int) ≥ 16) := h22; omega
                  refine e_Ok.run (t' := (52, [(0, (1, 275)), (1, (0, p1)), (2, (0, p2)), (3, (0, y3)), (4, (0, y4))], [(1, 275), (0, y3)], w)) 2 rfl ?_
                  refine e_Ok.getr (z := 276) rfl (el_o rfl) rfl rfl (e_Has.eq hI.1 rfl) (by omega) ?_
                  refine e_Ok.run (t' := (57, [(0, (1, 275)), (1, (0, p1)), (2, (0, p2)), (3, (0, y3)), (4, (0, y4))], [(0, y4), (1, 276), (0, y3)], w)) 1 rfl ?_
                  refine e_Ok.callS rfl (by omega) rfl rfl (c_269 (by omega)) (fun r47 w48 h49 => ?_)
                  obtain ⟨rfl, rfl⟩ := h49
                  show e_Ok 20 elay ecode eI (d + 1) 425 (60, [(0, (1, 275)), (1, (0, p1)), (2, (0, p2)), (3, (0, y3)), (4, (0, y4))], [(0, 1260 * y4 + 416), (1, 276), (0, y3)], w) _
                  have h50 := (e_Has.get hI.1 (c := 276) (k := 1260 * y4 + 416) (lo := 0) (hi := 7) (nR_TSTATE (t := y4) (by omega)) (by decide))
                  refine e_Ok.ald (z := w 276 (1260 * y4 + 416)) rfl (el_o rfl) rfl (by omega) rfl (by omega) ?_
                  refine e_Ok.if1 rfl (fun h51 => ?_) (fun h51 => ?_)
                  · replace h51 : (w 276 (1260 * y4 + 416) : Int) = 0 := h51
                    refine e_Ok.run (t' := (84, [(0, (1, 275)), (1, (0, p1)), (2, (0, p2)), (3, (0, y3)), (4, (0, y4))], [(0, 1), (0, y3)], w)) 2 rfl ?_
                    refine e_Ok.or01 (by omega) (by omega) (fun z52 hz52 => ?_) rfl
                    replace hz52 : (0 ≤ z52 ∧ z52 ≤ 1) ∧ (z52 = 0 ↔ ((y3 : Int) = 0 ∧ (1 : Int) = 0)) := hz52
                    refine e_Ok.run (t' := (86, [(3, (0, z52)), (0, (1, 275)), (1, (0, p1)), (2, (0, p2)), (4, (0, y4))], [], w)) 1 rfl ?_
                    refine e_Ok.inc (z := y4 + 1) rfl rfl (by omega) (by omega) ?_
                    show e_Ok 20 elay ecode eI (d + 1) 425 (89, [(4, (0, y4 + 1)), (3, (0, z52)), (0, (1, 275)), (1, (0, p1)), (2, (0, p2))], [], w) _
                    refine e_Ok.run (t' := (43, [(4, (0, y4 + 1)), (3, (0, z52)), (0, (1, 275)), (1, (0, p1)), (2, (0, p2))], [], w)) 1 rfl ?_
                    refine e_Ok.sub eAlk (e_sub_of rfl ?_) (ih18 z52 (y4 + 1) ⟨by omega, (fun e t g1 g2 => Decidable.byCases (p := t = y4) (fun e1 => by rw [e1]; omega) (fun e1 => j20 (by omega) t g1 (by omega))), (fun e => Decidable.byCases (p := y3 = 1) (fun e1 => j21 e1) (fun e1 => ⟨y4, by omega, by omega, by omega⟩))⟩ (by omega))
                    exact ⟨rfl, rfl, rfl, rfl, rfl, trivial⟩
                  · replace h51 : (w 276 (1260 * y4 + 416) : Int) ≠ 0 := by have q : ¬ ((w 276 (1260 * y4 + 416) : Int) = 0) := h51; omega
                    refine e_Ok.run (t' := (65, [(0, (1, 275)), (1, (0, p1)), (2, (0, p2)), (3, (0, y3)), (4, (0, y4))], [(1, 275), (0, y3)], w)) 1 rfl ?_
                    refine e_Ok.getr (z := 276) rfl (el_o rfl) rfl rfl (e_Has.eq hI.1 rfl) (by omega) ?_
                    refine e_Ok.run (t' := (70, [(0, (1, 275)), (1, (0, p1)), (2, (0, p2)), (3, (0, y3)), (4, (0, y4))], [(0, y4), (1, 276), (0, y3)], w)) 1 rfl ?_
                    refine e_Ok.callS rfl (by omega) rfl rfl (c_269 (by omega)) (fun r53 w54 h55 => ?_)
                    obtain ⟨rfl, rfl⟩ := h55
                    show e_Ok 20 elay ecode eI (d + 1) 425 (73, [(0, (1, 275)), (1, (0, p1)), (2, (0, p2)), (3, (0, y3)), (4, (0, y4))], [(0, 1260 * y4 + 416), (1, 276), (0, y3)], w) _
                    refine e_Ok.ald (z := w 276 (1260 * y4 + 416)) rfl (el_o rfl) rfl (by omega) rfl (by omega) ?_
                    refine e_Ok.run (t' := (76, [(0, (1, 275)), (1, (0, p1)), (2, (0, p2)), (3, (0, y3)), (4, (0, y4))], [(0, 6), (0, w 276 (1260 * y4 + 416)), (0, y3)], w)) 1 rfl ?_
                    refine e_Ok.if2 rfl (fun h56 => ?_) (fun h56 => ?_)
                    · replace h56 : (w 276 (1260 * y4 + 416) : Int) ≠ 6 := h56
                      refine e_Ok.run (t' := (84, [(0, (1, 275)), (1, (0, p1)), (2, (0, p2)), (3, (0, y3)), (4, (0, y4))], [(0, 0), (0, y3)], w)) 1 rfl ?_
                      refine e_Ok.or01 (by omega) (by omega) (fun z57 hz57 => ?_) rfl
                      replace hz57 : (0 ≤ z57 ∧ z57 ≤ 1) ∧ (z57 = 0 ↔ ((y3 : Int) = 0 ∧ (0 : Int) = 0)) := hz57
                      refine e_Ok.run (t' := (86, [(3, (0, z57)), (0, (1, 275)), (1, (0, p1)), (2, (0, p2)), (4, (0, y4))], [], w)) 1 rfl ?_
                      refine e_Ok.inc (z := y4 + 1) rfl rfl (by omega) (by omega) ?_
                      show e_Ok 20 elay ecode eI (d + 1) 425 (89, [(4, (0, y4 + 1)), (3, (0, z57)), (0, (1, 275)), (1, (0, p1)), (2, (0, p2))], [], w) _
                      refine e_Ok.run (t' := (43, [(4, (0, y4 + 1)), (3, (0, z57)), (0, (1, 275)), (1, (0, p1)), (2, (0, p2))], [], w)) 1 rfl ?_
                      refine e_Ok.sub eAlk (e_sub_of rfl ?_) (ih18 z57 (y4 + 1) ⟨by omega, (fun e t g1 g2 => Decidable.byCases (p := t = y4) (fun e1 => by rw [e1]; omega) (fun e1 => j20 (by omega) t g1 (by omega))), (fun e => Decidable.byCases (p := y3 = 1) (fun e1 => j21 e1) (fun e1 => ⟨y4, by omega, by omega, by omega⟩))⟩ (by omega))
                      exact ⟨rfl, rfl, rfl, rfl, rfl, trivial⟩
                    · replace h56 : (w 276 (1260 * y4 + 416) : Int) = 6 := by have q : ¬ ((w 276 (1260 * y4 + 416) : Int) ≠ 6) := h56; omega
                      refine e_Ok.run (t' := (84, [(0, (1, 275)), (1, (0, p1)), (2, (0, p2)), (3, (0, y3)), (4, (0, y4))], [(0, 1), (0, y3)], w)) 2 rfl ?_
                      refine e_Ok.or01 (by omega) (by omega) (fun z58 hz58 => ?_) rfl
                      replace hz58 : (0 ≤ z58 ∧ z58 ≤ 1) ∧ (z58 = 0 ↔ ((y3 : Int) = 0 ∧ (1 : Int) = 0)) := hz58
                      refine e_Ok.run (t' := (86, [(3, (0, z58)), (0, (1, 275)), (1, (0, p1)), (2, (0, p2)), (4, (0, y4))], [], w)) 1 rfl ?_
                      refine e_Ok.inc (z := y4 + 1) rfl rfl (by omega) (by omega) ?_
                      show e_Ok 20 elay ecode eI (d + 1) 425 (89, [(4, (0, y4 + 1)), (3, (0, z58)), (0, (1, 275)), (1, (0, p1)), (2, (0, p2))], [], w) _
                      refine e_Ok.run (t' := (43, [(4, (0, y4 + 1)), (3, (0, z58)), (0, (1, 275)), (1, (0, p1)), (2, (0, p2))], [], w)) 1 rfl ?_
                      refine e_Ok.sub eAlk (e_sub_of rfl ?_) (ih18 z58 (y4 + 1) ⟨by omega, (fun e t g1 g2 => Decidable.byCases (p := t = y4) (fun e1 => by rw [e1]; omega) (fun e1 => j20 (by omega) t g1 (by omega))), (fun e => Decidable.byCases (p := y3 = 1) (fun e1 => j21 e1) (fun e1 => ⟨y4, by omega, by omega, by omega⟩))⟩ (by omega))
                      exact ⟨rfl, rfl, rfl, rfl, rfl, trivial⟩
            refine e_Ok.sub eAlk (e_sub_of rfl ?_) (hL17 (17 + 1 : Int).toNat 0 0 ⟨by omega, (fun e t g1 g2 => by omega), (fun e => by omega)⟩ (by omega))
            exact ⟨rfl, rfl, rfl, rfl, rfl, trivial⟩
          · replace h16 : (w 275 3 : Int) = 0 := by have q : ¬ ((w 275 3 : Int) ≠ 0) := h16; omega
            refine e_Ok.run (t' := (37, [(0, (1, 275)), (1, (0, p1)), (2, (0, p2))], [(0, (-2))], w)) 1 rfl ?_
            refine e_Ok.rets rfl rfl ?_
            exact ⟨_, rfl, Or.inl ⟨rfl, fun hc => by have h1 := hc.1.1; omega⟩⟩
        · replace h14 : (1 : Int) = 0 := by have q : ¬ ((1 : Int) ≠ 0) := h14; omega
          exfalso; omega
      · show e_Ok 20 elay ecode eI (d + 1) 425 (23, [(0, (1, 275)), (1, (0, p1)), (2, (0, p2))], [(0, 0)], w) _
        refine e_Ok.if1 rfl (fun h59 => ?_) (fun h59 => ?_)
        · replace h59 : (0 : Int) ≠ 0 := h59
          exfalso; omega
        · replace h59 : (0 : Int) = 0 := by have q : ¬ ((0 : Int) ≠ 0) := h59; omega
          refine e_Ok.run (t' := (27, [(0, (1, 275)), (1, (0, p1)), (2, (0, p2))], [(0, (-1))], w)) 1 rfl ?_
          refine e_Ok.rets rfl rfl ?_
          exact ⟨_, rfl, Or.inl ⟨rfl, fun hc => by have h1 := hc.1.1; omega⟩⟩
  · show e_Ok 20 elay ecode eI (d + 1) 425 (5, [(0, (1, 275)), (1, (0, p1)), (2, (0, p2))], [(0, 0)], w) _
    refine e_Ok.if1 rfl (fun h60 => ?_) (fun h60 => ?_)
    · replace h60 : (0 : Int) = 0 := h60
      refine e_Ok.run (t' := (27, [(0, (1, 275)), (1, (0, p1)), (2, (0, p2))], [(0, (-1))], w)) 1 rfl ?_
      refine e_Ok.rets rfl rfl ?_
      exact ⟨_, rfl, Or.inl ⟨rfl, fun hc => by have h1 := hc.1.1; omega⟩⟩
    · replace h60 : (0 : Int) ≠ 0 := by have q : ¬ ((0 : Int) = 0) := h60; omega
      exfalso; omega
end
