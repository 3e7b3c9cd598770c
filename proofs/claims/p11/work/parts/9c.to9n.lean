-- part 9c
section
noncomputable section
theorem y01 {y : Int} (h0 : 0 ≤ y) (h1 : y ≤ 1) (h : y ≠ 0) : y = 1 := by omega
/-- the cell, with 'now' at s -/
def wn (w : eW) (s : Int → Int) : eW := fun c k => if c = 276 then s k else w c k
def runN (w : eW) : Nat → Int → Int
  | 0 => w 276
  | n + 1 => tickF (wn w (runN w n)) 276
theorem ti_K0 {c k : Int} (h : mTi c k) (q : K0 c k) : c = 276 := by
  rcases h with h | ⟨rfl, h⟩ | h | rfl | rfl | rfl
  · exact h
  · exfalso
    have e : k = 58 ∨ k = 59 ∨ k = 60 ∨ k = 96 ∨ k = 97 ∨ k = 98 ∨ k = 99 ∨ k = 100 ∨ k = 102 := by omega
    rcases e with rfl | rfl | rfl | rfl | rfl | rfl | rfl | rfl | rfl <;> exact absurd q (by decide : ¬ ((1 : Int) ≤ 0))
  · exfalso
    have e : c = 321 ∨ c = 322 ∨ c = 323 ∨ c = 324 ∨ c = 325 ∨ c = 326 ∨ c = 327 := by omega
    rcases e with rfl | rfl | rfl | rfl | rfl | rfl | rfl <;> exact absurd q (by decide : ¬ ((1 : Int) ≤ 0))
  · exact absurd q (by decide : ¬ ((1 : Int) ≤ 0))
  · exact absurd q (by decide : ¬ ((1 : Int) ≤ 0))
  · exact absurd q (by decide : ¬ ((1 : Int) ≤ 0))
theorem wn_low {w v : eW} {s : Int → Int} (hF : e_fr mTi w v) (hs : ∀ k, v 276 k = s k) : ∀ c k, K0 c k → v c k = wn w s c k := fun c k q => by
  unfold wn
  by_cases e : c = 276
  · rw [if_pos e, e]; exact hs k
  · rw [if_neg e]; exact hF c k (fun q1 => e (ti_K0 q1 q))
theorem runN_step {w v : eW} {n : Nat} (hF : e_fr mTi w v) (hs : ∀ k, v 276 k = runN w n k) (k : Int) : tickF v 276 k = runN w (n + 1) k := by
  show tickF v 276 k = tickF (wn w (runN w n)) 276 k
  rw [tickF_eq (wn_low hF hs)]
theorem no_9c_0 : ¬ mTi 275 5 := by unfold mTi; omega
theorem no_9c_1 : ¬ mTi 275 6 := by unfold mTi; omega
theorem no_9c_2 {k : Int} : ¬ mTi 356 k := by unfold mTi; omega
set_option maxHeartbeats 4000000 in
theorem c_426 {d : Nat} (hd : 45 ≤ d) {w : eW} {G : Int → Gh} (hI : mInv w G) (hB : bkE w) (hE : w 276 5 ≤ 7000000) {p1 : Int} (g1 : -2147483648 ≤ p1 ∧ p1 ≤ 2147483647) : e_Ok 20 elay ecode eI d 426 (0, [(0, (1, 275)), (1, (0, p1))], [], w) (fun r w' => ∃ z : Int, r = [(0, z)] ∧ ((w = w' ∧ ¬ ((1 ≤ p1 ∧ p1 ≤ 1000 ∧ w 275 3 = 1 ∧ w 276 0 ≠ 6000) ∧ ¬ mBk w)) ∨ ((1 ≤ p1 ∧ p1 ≤ 1000 ∧ w 275 3 = 1 ∧ w 276 0 ≠ 6000) ∧ ¬ mBk w ∧ opS w w' G 1 p1 0 0 (fun k => runN w (if p1 < 6000 - w 276 0 then p1 else 6000 - w 276 0).toNat k) ∧ evG w w'))) := by
  obtain ⟨d, rfl⟩ : ∃ e, d = e + 1 := ⟨d - 1, by omega⟩
  have htm := e_Has.get hI.1 (c := 276) (k := 0) (lo := 0) (hi := 6000) rfl (by decide)
  refine e_Ok.ps3 (x := (4, 1000)) (y := (4, 1)) (z := (4, p1)) (q := 6) 4 rfl ?_
  refine e_Ok.callS rfl (e_dq hd rfl) rfl rfl (c_266) (fun r1 w2 h3 => ?_)
  obtain ⟨z4, rfl, rfl, q5⟩ := h3
  obtain ⟨rfl, q5⟩ | ⟨rfl, q5⟩ := q5
  · refine e_Ok.nrm (q := 9) (st' := [(0, 1)]) rfl rfl ?_
    refine e_Ok.if1 rfl (fun h6 => ?_) (fun h6 => ?_)
    · replace h6 : (1 : Int) ≠ 0 := h6
      refine e_Ok.ps1 (x := (1, 275)) (q := 15) 1 rfl ?_
      have h7 := (e_Has.get hI.1 (c := 275) (k := 3) (lo := 0) (hi := 1) rfl (by decide))
      refine e_Ok.getf (z := w 275 3) rfl (el_o rfl) rfl (ef_o rfl) rfl (e_bq h7 (by decide) (by decide)) ?_
      refine e_Ok.if1 rfl (fun h8 => ?_) (fun h8 => ?_)
      · replace h8 : (w 275 3 : Int) ≠ 0 := h8
        refine e_Ok.ps1 (x := (1, 275)) (q := 25) 1 rfl ?_
        refine e_Ok.getr (z := 276) rfl (el_o rfl) rfl (ef_o rfl) (e_Has.eq hI.1 rfl) ⟨by decide, by decide⟩ ?_
        refine e_Ok.ps1 (x := (0, 0)) (q := 29) 1 rfl ?_
        refine e_Ok.ald (z := w 276 0) rfl (el_o rfl) rfl (by omega) rfl (by omega) ?_
        refine e_Ok.ps1 (x := (0, 6000)) (q := 33) 1 rfl ?_
        refine e_Ok.if2 rfl (fun h9 => ?_) (fun h9 => ?_)
        · replace h9 : (w 276 0 : Int) = 6000 := h9
          refine e_Ok.ps1 (x := (0, (-3))) (q := 45) 1 rfl ?_
          refine e_Ok.rets rfl rfl ?_
          exact ⟨_, rfl, Or.inl ⟨rfl, fun hc => by first | exact hc.2 (by assumption) | (have h1 := hc.1; omega)⟩⟩
        · replace h9 : (w 276 0 : Int) ≠ 6000 := (show ¬ ((w 276 0 : Int) = 6000) from h9)
          refine e_Ok.ps1 (x := (1, 275)) (q := 37) 1 rfl ?_
          refine e_Ok.callV rfl (e_dq hd rfl) rfl rfl rfl rfl (c_422_x hI.1 hB) (fun r10 w11 h12 => ?_)
          obtain ⟨z13, rfl, rfl, q14⟩ := h12
          obtain ⟨rfl, q14⟩ | ⟨rfl, q14⟩ := q14
          · refine e_Ok.nrm (q := 40) (st' := [(0, 1)]) rfl rfl ?_
            refine e_Ok.if1 rfl (fun h15 => ?_) (fun h15 => ?_)
            · replace h15 : (1 : Int) = 0 := h15
              exfalso; omega
            · replace h15 : (1 : Int) ≠ 0 := (show ¬ ((1 : Int) = 0) from h15)
              refine e_Ok.ps1 (x := (0, (-3))) (q := 45) 1 rfl ?_
              refine e_Ok.rets rfl rfl ?_
              exact ⟨_, rfl, Or.inl ⟨rfl, fun hc => by first | exact hc.2 (by assumption) | (have h1 := hc.1; omega)⟩⟩
          · refine e_Ok.nrm (q := 40) (st' := [(0, 0)]) rfl rfl ?_
            refine e_Ok.if1 rfl (fun h16 => ?_) (fun h16 => ?_)
            · replace h16 : (0 : Int) = 0 := h16
              refine e_Ok.ps3 (x := (1, 275)) (y := (0, 6000)) (z := (0, p1)) (q := 51) 3 rfl ?_
              refine e_Ok.getr (z := 276) rfl (el_o rfl) rfl (ef_o rfl) (e_Has.eq hI.1 rfl) ⟨by decide, by decide⟩ ?_
              refine e_Ok.ps1 (x := (0, 0)) (q := 55) 1 rfl ?_
              refine e_Ok.ald (z := w 276 0) rfl (el_o rfl) rfl (by omega) rfl (by omega) ?_
              refine e_Ok.sub' (z := -w 276 0 + 6000) rfl (by omega) (by omega) ?_
              refine e_Ok.if2 rfl (fun h17 => ?_) (fun h17 => ?_)
              · replace h17 : (p1 : Int) ≥ -w 276 0 + 6000 := h17
                refine e_Ok.ps2 (x := (1, 275)) (y := (0, 6000)) (q := 68) 2 rfl ?_
                refine e_Ok.getr (z := 276) rfl (el_o rfl) rfl (ef_o rfl) (e_Has.eq hI.1 rfl) ⟨by decide, by decide⟩ ?_
                refine e_Ok.ps1 (x := (0, 0)) (q := 72) 1 rfl ?_
                refine e_Ok.ald (z := w 276 0) rfl (el_o rfl) rfl (by omega) rfl (by omega) ?_
                refine e_Ok.sub' (z := -w 276 0 + 6000) rfl (by omega) (by omega) ?_
                refine e_Ok.run (t' := (75, [(2, (0, -w 276 0 + 6000)), (0, (1, 275)), (1, (0, p1))], [], w)) 1 rfl ?_
                refine e_Ok.run (t' := (77, [(3, (0, 0)), (2, (0, -w 276 0 + 6000)), (0, (1, 275)), (1, (0, p1))], [], w)) 2 rfl ?_
                have hL18 : ∀ (nn : Nat) (y3 : Int) (v1 : eW), e_fr mTi w v1 ∧ e_Has mTy v1 ∧ mInv v1 G ∧ v1 276 0 = w 276 0 + y3 ∧ (w 276 5 ≤ v1 276 5 ∧ v1 276 5 ≤ w 276 5 + 900 * y3) ∧ ((0 ≤ y3 ∧ y3 ≤ 1000 ∧ y3 ≤ -w 276 0 + 6000)) ∧ (∀ k, v1 276 k = runN w y3.toNat k) → 1001 - y3 < nn → e_Ok 20 elay ecode eI (d + 1) 426 (77, [(0, (1, 275)), (1, (0, p1)), (2, (0, -w 276 0 + 6000)), (3, (0, y3))], [], v1) (fun r w' => ∃ z : Int, r = [(0, z)] ∧ ((w = w' ∧ ¬ ((1 ≤ p1 ∧ p1 ≤ 1000 ∧ w 275 3 = 1 ∧ w 276 0 ≠ 6000) ∧ ¬ mBk w)) ∨ ((1 ≤ p1 ∧ p1 ≤ 1000 ∧ w 275 3 = 1 ∧ w 276 0 ≠ 6000) ∧ ¬ mBk w ∧ opS w w' G 1 p1 0 0 (fun k => runN w (if p1 < 6000 - w 276 0 then p1 else 6000 - w 276 0).toNat k) ∧ evG w w'))) := by
                  intro nn
                  induction nn with
                  | zero => intro y3 v1 hj hm; obtain ⟨j20, j21, j22, j23, j24, j25, j26⟩ := hj; exfalso; omega
                  | succ nn ih19 =>
                    intro y3 v1 hj hm
                    obtain ⟨j20, j21, j22, j23, j24, j25, j26⟩ := hj
                    refine e_Ok.run (t' := (79, [(0, (1, 275)), (1, (0, p1)), (2, (0, -w 276 0 + 6000)), (3, (0, y3))], [(0, -w 276 0 + 6000), (0, y3)], v1)) 2 rfl ?_
                    refine e_Ok.if2 rfl (fun h27 => ?_) (fun h27 => ?_)
                    · replace h27 : (y3 : Int) ≥ -w 276 0 + 6000 := h27
                      refine e_Ok.run (t' := (97, [(0, (1, 275)), (1, (0, p1)), (2, (0, -w 276 0 + 6000)), (3, (0, y3))], [(0, 0), (0, 0), (0, p1), (0, 1), (1, 275)], v1)) 5 rfl ?_
                      refine e_Ok.callV rfl (e_dq hd rfl) rfl rfl rfl rfl (c_423_u (e_dq hd rfl) j21 (bkE.fr hB (j20 275 5 no_9c_0) (j20 275 6 no_9c_1) (fun k => j20 356 k no_9c_2)).1 (fun e => by have e5 : v1 275 5 = w 275 5 := j20 275 5 no_9c_0; have e6 : v1 275 6 = w 275 6 := j20 275 6 no_9c_1; have h1 := hB.1; have h2 := (show ¬ mBk w by assumption); unfold mBk at h2; omega) (by decide) (fun e => by omega)) (fun r28 w29 h30 => ?_)
                      obtain ⟨rfl, q31⟩ := h30
                      refine e_Ok.nrm (q := 100) (st' := []) rfl rfl ?_
                      refine e_Ok.ps1 (x := (0, -w 276 0 + 6000)) (q := 101) 1 rfl ?_
                      refine e_Ok.rets rfl rfl ?_
                      have ek0 : v1 276 0 = v1 276 0 := rfl
                      have ek5 : v1 276 5 = v1 276 5 := rfl
                      exact ⟨_, rfl, Or.inr ⟨⟨by omega, by omega, by omega, by omega⟩, by assumption, opS.ev (wm := v1) (opS.of j20 j22 (fun k => by show v1 276 k = runN w (if p1 < 6000 - w 276 0 then p1 else 6000 - w 276 0).toNat k; rw [if_neg (by omega), show 6000 - w 276 0 = y3 by omega]; exact j26 k) q31) (fun k => by show v1 276 k = runN w (if p1 < 6000 - w 276 0 then p1 else 6000 - w 276 0).toNat k; rw [if_neg (by omega), show 6000 - w 276 0 = y3 by omega]; exact j26 k) (by unfold evG; omega)⟩⟩
                    · replace h27 : (y3 : Int) < -w 276 0 + 6000 := Int.not_le.mp (show ¬ ((y3 : Int) ≥ -w 276 0 + 6000) from h27)
                      refine e_Ok.ps1 (x := (1, 275)) (q := 83) 1 rfl ?_
                      refine e_Ok.callV rfl (e_dq hd rfl) rfl rfl rfl rfl (d_408 (e_dq hd rfl) j22 (by omega) (by omega)) (fun r32 w33 h34 => ?_)
                      obtain ⟨rfl, q35, q35I, q35t, q35n, q35x⟩ := h34
                      refine e_Ok.nrm (q := 86) (st' := []) rfl rfl ?_
                      refine e_Ok.inc (z := y3 + 1) rfl rfl (by first | with_reducible rfl | omega) (by omega) ?_
                      show e_Ok 20 elay ecode eI (d + 1) 426 (89, [(3, (0, y3 + 1)), (0, (1, 275)), (1, (0, p1)), (2, (0, -w 276 0 + 6000))], [], w33) _
                      refine e_Ok.ps0 (q := 77) 1 rfl ?_
                      refine e_Ok.sub eAlk (e_sub_of rfl ?_) (ih19 (y3 + 1) w33 ⟨(show e_fr mTi w w33 from e_fr.trans j20 (e_fr.mono q35 (fun c k q => by exact q))), q35I.1, q35I, by omega, by omega, by omega, (fun k => Eq.trans (q35x k) (by rw [show (y3 + 1).toNat = y3.toNat + 1 by omega]; exact runN_step j20 j26 k))⟩ (by omega))
                      exact ⟨rfl, rfl, rfl, rfl, trivial⟩
                refine e_Ok.sub eAlk (e_sub_of rfl ?_) (hL18 (1001 + 1 : Int).toNat 0 w ⟨(e_fr.refl w), hI.1, hI, by omega, by omega, by omega, (fun k => rfl)⟩ (by omega))
                exact ⟨rfl, rfl, rfl, rfl, trivial⟩
              · replace h17 : (p1 : Int) < -w 276 0 + 6000 := Int.not_le.mp (show ¬ ((p1 : Int) ≥ -w 276 0 + 6000) from h17)
                refine e_Ok.run (t' := (75, [(2, (0, p1)), (0, (1, 275)), (1, (0, p1))], [], w)) 3 rfl ?_
                refine e_Ok.run (t' := (77, [(3, (0, 0)), (2, (0, p1)), (0, (1, 275)), (1, (0, p1))], [], w)) 2 rfl ?_
                have hL37 : ∀ (nn : Nat) (y3 : Int) (v1 : eW), e_fr mTi w v1 ∧ e_Has mTy v1 ∧ mInv v1 G ∧ v1 276 0 = w 276 0 + y3 ∧ (w 276 5 ≤ v1 276 5 ∧ v1 276 5 ≤ w 276 5 + 900 * y3) ∧ ((0 ≤ y3 ∧ y3 ≤ 1000 ∧ y3 ≤ p1)) ∧ (∀ k, v1 276 k = runN w y3.toNat k) → 1001 - y3 < nn → e_Ok 20 elay ecode eI (d + 1) 426 (77, [(0, (1, 275)), (1, (0, p1)), (2, (0, p1)), (3, (0, y3))], [], v1) (fun r w' => ∃ z : Int, r = [(0, z)] ∧ ((w = w' ∧ ¬ ((1 ≤ p1 ∧ p1 ≤ 1000 ∧ w 275 3 = 1 ∧ w 276 0 ≠ 6000) ∧ ¬ mBk w)) ∨ ((1 ≤ p1 ∧ p1 ≤ 1000 ∧ w 275 3 = 1 ∧ w 276 0 ≠ 6000) ∧ ¬ mBk w ∧ opS w w' G 1 p1 0 0 (fun k => runN w (if p1 < 6000 - w 276 0 then p1 else 6000 - w 276 0).toNat k) ∧ evG w w'))) := by
                  intro nn
                  induction nn with
                  | zero => intro y3 v1 hj hm; obtain ⟨j40, j41, j42, j43, j44, j45, j46⟩ := hj; exfalso; omega
                  | succ nn ih38 =>
                    intro y3 v1 hj hm
                    obtain ⟨j40, j41, j42, j43, j44, j45, j46⟩ := hj
                    refine e_Ok.run (t' := (79, [(0, (1, 275)), (1, (0, p1)), (2, (0, p1)), (3, (0, y3))], [(0, p1), (0, y3)], v1)) 2 rfl ?_
                    refine e_Ok.if2 rfl (fun h47 => ?_) (fun h47 => ?_)
                    · replace h47 : (y3 : Int) ≥ p1 := h47
                      refine e_Ok.run (t' := (97, [(0, (1, 275)), (1, (0, p1)), (2, (0, p1)), (3, (0, y3))], [(0, 0), (0, 0), (0, p1), (0, 1), (1, 275)], v1)) 5 rfl ?_
                      refine e_Ok.callV rfl (e_dq hd rfl) rfl rfl rfl rfl (c_423_u (e_dq hd rfl) j41 (bkE.fr hB (j40 275 5 no_9c_0) (j40 275 6 no_9c_1) (fun k => j40 356 k no_9c_2)).1 (fun e => by have e5 : v1 275 5 = w 275 5 := j40 275 5 no_9c_0; have e6 : v1 275 6 = w 275 6 := j40 275 6 no_9c_1; have h1 := hB.1; have h2 := (show ¬ mBk w by assumption); unfold mBk at h2; omega) (by decide) (fun e => by omega)) (fun r48 w49 h50 => ?_)
                      obtain ⟨rfl, q51⟩ := h50
                      refine e_Ok.nrm (q := 100) (st' := []) rfl rfl ?_
                      refine e_Ok.ps1 (x := (0, p1)) (q := 101) 1 rfl ?_
                      refine e_Ok.rets rfl rfl ?_
                      have ek0 : v1 276 0 = v1 276 0 := rfl
                      have ek5 : v1 276 5 = v1 276 5 := rfl
                      exact ⟨_, rfl, Or.inr ⟨⟨by omega, by omega, by omega, by omega⟩, by assumption, opS.ev (wm := v1) (opS.of j40 j42 (fun k => by show v1 276 k = runN w (if p1 < 6000 - w 276 0 then p1 else 6000 - w 276 0).toNat k; rw [if_pos (by omega), show p1 = y3 by omega]; exact j46 k) q51) (fun k => by show v1 276 k = runN w (if p1 < 6000 - w 276 0 then p1 else 6000 - w 276 0).toNat k; rw [if_pos (by omega), show p1 = y3 by omega]; exact j46 k) (by unfold evG; omega)⟩⟩
                    · replace h47 : (y3 : Int) < p1 := Int.not_le.mp (show ¬ ((y3 : Int) ≥ p1) from h47)
                      refine e_Ok.ps1 (x := (1, 275)) (q := 83) 1 rfl ?_
                      refine e_Ok.callV rfl (e_dq hd rfl) rfl rfl rfl rfl (d_408 (e_dq hd rfl) j42 (by omega) (by omega)) (fun r52 w53 h54 => ?_)
                      obtain ⟨rfl, q55, q55I, q55t, q55n, q55x⟩ := h54
                      refine e_Ok.nrm (q := 86) (st' := []) rfl rfl ?_
                      refine e_Ok.inc (z := y3 + 1) rfl rfl (by first | with_reducible rfl | omega) (by omega) ?_
                      show e_Ok 20 elay ecode eI (d + 1) 426 (89, [(3, (0, y3 + 1)), (0, (1, 275)), (1, (0, p1)), (2, (0, p1))], [], w53) _
                      refine e_Ok.ps0 (q := 77) 1 rfl ?_
                      refine e_Ok.sub eAlk (e_sub_of rfl ?_) (ih38 (y3 + 1) w53 ⟨(show e_fr mTi w w53 from e_fr.trans j40 (e_fr.mono q55 (fun c k q => by exact q))), q55I.1, q55I, by omega, by omega, by omega, (fun k => Eq.trans (q55x k) (by rw [show (y3 + 1).toNat = y3.toNat + 1 by omega]; exact runN_step j40 j46 k))⟩ (by omega))
                      exact ⟨rfl, rfl, rfl, rfl, trivial⟩
                refine e_Ok.sub eAlk (e_sub_of rfl ?_) (hL37 (1001 + 1 : Int).toNat 0 w ⟨(e_fr.refl w), hI.1, hI, by omega, by omega, by omega, (fun k => rfl)⟩ (by omega))
                exact ⟨rfl, rfl, rfl, rfl, trivial⟩
            · replace h16 : (0 : Int) ≠ 0 := (show ¬ ((0 : Int) = 0) from h16)
              exfalso; omega
      · replace h8 : (w 275 3 : Int) = 0 := Classical.not_not.mp (show ¬ ((w 275 3 : Int) ≠ 0) from h8)
        refine e_Ok.ps1 (x := (0, (-2))) (q := 23) 1 rfl ?_
        refine e_Ok.rets rfl rfl ?_
        exact ⟨_, rfl, Or.inl ⟨rfl, fun hc => by first | exact hc.2 (by assumption) | (have h1 := hc.1; omega)⟩⟩
    · replace h6 : (1 : Int) = 0 := Classical.not_not.mp (show ¬ ((1 : Int) ≠ 0) from h6)
      exfalso; omega
  · refine e_Ok.nrm (q := 9) (st' := [(0, 0)]) rfl rfl ?_
    refine e_Ok.if1 rfl (fun h57 => ?_) (fun h57 => ?_)
    · replace h57 : (0 : Int) ≠ 0 := h57
      exfalso; omega
    · replace h57 : (0 : Int) = 0 := Classical.not_not.mp (show ¬ ((0 : Int) ≠ 0) from h57)
      refine e_Ok.ps1 (x := (0, (-1))) (q := 13) 1 rfl ?_
      refine e_Ok.rets rfl rfl ?_
      exact ⟨_, rfl, Or.inl ⟨rfl, fun hc => by first | exact hc.2 (by assumption) | (have h1 := hc.1; omega)⟩⟩
set_option maxHeartbeats 4000000 in
theorem c_425 {d : Nat} (hd : 27 ≤ d) {w : eW} {G : Int → Gh} (hI : mInv w G) (hB : bkE w) (hE : w 276 5 ≤ 7000000) {p1 p2 : Int} (g1 : -2147483648 ≤ p1 ∧ p1 ≤ 2147483647) (g2 : -2147483648 ≤ p2 ∧ p2 ≤ 2147483647) : e_Ok 20 elay ecode eI d 425 (0, [(0, (1, 275)), (1, (0, p1)), (2, (0, p2))], [], w) (fun r w' => ∃ z : Int, r = [(0, z)] ∧ ((w = w' ∧ ¬ (((0 ≤ p1 ∧ p1 < w 275 10 ∧ 0 ≤ p2 ∧ p2 < w 338 p1 ∧ w 275 3 = 1) ∧ ∃ t, 0 ≤ t ∧ t ≤ 15 ∧ (w 276 (1260 * t + 416) = 0 ∨ w 276 (1260 * t + 416) = 6)) ∧ ¬ mBk w)) ∨ (((0 ≤ p1 ∧ p1 < w 275 10 ∧ 0 ≤ p2 ∧ p2 < w 338 p1 ∧ w 275 3 = 1) ∧ ∃ t, 0 ≤ t ∧ t ≤ 15 ∧ (w 276 (1260 * t + 416) = 0 ∨ w 276 (1260 * t + 416) = 6)) ∧ ¬ mBk w ∧ opS w w' G 0 p1 p2 0 (nowF 359 [(0, (1, 275)), (1, (0, p1)), (2, (0, p2))] w) ∧ evG w w'))) := by
  obtain ⟨d, rfl⟩ : ∃ e, d = e + 1 := ⟨d - 1, by omega⟩
  have htm := e_Has.get hI.1 (c := 276) (k := 0) (lo := 0) (hi := 6000) rfl (by decide)
  refine e_Ok.ps2 (x := (0, p1)) (y := (1, 275)) (q := 2) 2 rfl ?_
  refine e_Ok.callV rfl (e_dq hd rfl) rfl rfl rfl rfl (c_270 (e_dq hd rfl) hI.1) (fun r1 w2 h3 => ?_)
  have h4 := e_Has.get hI.1 (c := 275) (k := 10) (lo := 0) (hi := 4) rfl (by decide)
  obtain ⟨z5, rfl, rfl, q6⟩ := h3
  obtain ⟨rfl, q6⟩ | ⟨rfl, q6⟩ := q6
  · refine e_Ok.nrm (q := 5) (st' := [(0, 1)]) rfl rfl ?_
    refine e_Ok.if1 rfl (fun h7 => ?_) (fun h7 => ?_)
    · replace h7 : (1 : Int) = 0 := h7
      exfalso; omega
    · replace h7 : (1 : Int) ≠ 0 := (show ¬ ((1 : Int) = 0) from h7)
      refine e_Ok.ps3 (x := (1, 275)) (y := (4, 0)) (z := (4, p2)) (q := 12) 4 rfl ?_
      refine e_Ok.getr (z := 338) rfl (el_o rfl) rfl (ef_o rfl) (e_Has.eq hI.1 rfl) ⟨by decide, by decide⟩ ?_
      refine e_Ok.ps1 (x := (0, p1)) (q := 16) 1 rfl ?_
      have h8 := (e_Has.get hI.1 (c := 338) (k := p1) (lo := 0) (hi := 32) rfl (by decide))
      refine e_Ok.ald (z := w 338 p1) rfl (el_o rfl) rfl (by omega) rfl (e_bq h8 (by decide) (by decide)) ?_
      refine e_Ok.ps1 (x := (0, 1)) (q := 18) 1 rfl ?_
      refine e_Ok.sub' (z := w 338 p1 - 1) rfl rfl (by omega) ?_
      refine e_Ok.run (t' := (20, [(0, (1, 275)), (1, (0, p1)), (2, (0, p2))], [(4, w 338 p1 - 1), (4, 0), (4, p2)], w)) 1 rfl ?_
      refine e_Ok.callS rfl (e_dq hd rfl) rfl rfl (c_266) (fun r9 w10 h11 => ?_)
      obtain ⟨z12, rfl, rfl, q13⟩ := h11
      obtain ⟨rfl, q13⟩ | ⟨rfl, q13⟩ := q13
      · refine e_Ok.nrm (q := 23) (st' := [(0, 1)]) rfl rfl ?_
        refine e_Ok.if1 rfl (fun h14 => ?_) (fun h14 => ?_)
        · replace h14 : (1 : Int) ≠ 0 := h14
          refine e_Ok.ps1 (x := (1, 275)) (q := 29) 1 rfl ?_
          have h15 := (e_Has.get hI.1 (c := 275) (k := 3) (lo := 0) (hi := 1) rfl (by decide))
          refine e_Ok.getf (z := w 275 3) rfl (el_o rfl) rfl (ef_o rfl) rfl (e_bq h15 (by decide) (by decide)) ?_
          refine e_Ok.if1 rfl (fun h16 => ?_) (fun h16 => ?_)
          · replace h16 : (w 275 3 : Int) ≠ 0 := h16
            have hcond : (0 ≤ p1 ∧ p1 < w 275 10 ∧ 0 ≤ p2 ∧ p2 < w 338 p1 ∧ w 275 3 = 1) := by omega
            refine e_Ok.run (t' := (43, [(4, (0, 0)), (3, (0, 0)), (0, (1, 275)), (1, (0, p1)), (2, (0, p2))], [], w)) 4 rfl ?_
            have hL17 : ∀ (nn : Nat) (y3 : Int) (y4 : Int), (0 ≤ y3 ∧ y3 ≤ 1 ∧ 0 ≤ y4 ∧ y4 ≤ 16) ∧ ((y3 = 0 → ∀ t, 0 ≤ t → t < y4 → w 276 (1260 * t + 416) ≠ 0 ∧ w 276 (1260 * t + 416) ≠ 6)) ∧ ((y3 = 1 → ∃ t, 0 ≤ t ∧ t ≤ 15 ∧ (w 276 (1260 * t + 416) = 0 ∨ w 276 (1260 * t + 416) = 6))) → 17 - y4 < nn → e_Ok 20 elay ecode eI (d + 1) 425 (43, [(0, (1, 275)), (1, (0, p1)), (2, (0, p2)), (3, (0, y3)), (4, (0, y4))], [], w) (fun r w' => ∃ z : Int, r = [(0, z)] ∧ ((w = w' ∧ ¬ (((0 ≤ p1 ∧ p1 < w 275 10 ∧ 0 ≤ p2 ∧ p2 < w 338 p1 ∧ w 275 3 = 1) ∧ ∃ t, 0 ≤ t ∧ t ≤ 15 ∧ (w 276 (1260 * t + 416) = 0 ∨ w 276 (1260 * t + 416) = 6)) ∧ ¬ mBk w)) ∨ (((0 ≤ p1 ∧ p1 < w 275 10 ∧ 0 ≤ p2 ∧ p2 < w 338 p1 ∧ w 275 3 = 1) ∧ ∃ t, 0 ≤ t ∧ t ≤ 15 ∧ (w 276 (1260 * t + 416) = 0 ∨ w 276 (1260 * t + 416) = 6)) ∧ ¬ mBk w ∧ opS w w' G 0 p1 p2 0 (nowF 359 [(0, (1, 275)), (1, (0, p1)), (2, (0, p2))] w) ∧ evG w w'))) := by
              intro nn
              induction nn with
              | zero => intro y3 y4 hj hm; obtain ⟨j19, j20, j21⟩ := hj; exfalso; omega
              | succ nn ih18 =>
                intro y3 y4 hj hm
                obtain ⟨j19, j20, j21⟩ := hj
                refine e_Ok.run (t' := (47, [(0, (1, 275)), (1, (0, p1)), (2, (0, p2)), (3, (0, y3)), (4, (0, y4))], [(0, 16), (0, y4)], w)) 2 rfl ?_
                refine e_Ok.if2 rfl (fun h22 => ?_) (fun h22 => ?_)
                · replace h22 : (y4 : Int) ≥ 16 := h22
                  refine e_Ok.ps1 (x := (0, y3)) (q := 93) 1 rfl ?_
                  refine e_Ok.if1 rfl (fun h23 => ?_) (fun h23 => ?_)
                  · replace h23 : (y3 : Int) = 0 := h23
                    refine e_Ok.ps1 (x := (0, (-3))) (q := 105) 1 rfl ?_
                    refine e_Ok.rets rfl rfl ?_
                    exact ⟨_, rfl, Or.inl ⟨rfl, fun hc => by first | exact hc.2 (by assumption) | (obtain ⟨t, t1, t2, t3⟩ := hc.1.2; have h1 := j20 (by omega) t t1 (by omega); omega)⟩⟩
                  · replace h23 : (y3 : Int) ≠ 0 := (show ¬ ((y3 : Int) = 0) from h23)
                    have hy3 : y3 = 1 := y01 j19.1 j19.2.1 (by assumption)
                    refine e_Ok.ps1 (x := (1, 275)) (q := 97) 1 rfl ?_
                    refine e_Ok.callV rfl (e_dq hd rfl) rfl rfl rfl rfl (c_422_x hI.1 hB) (fun r24 w25 h26 => ?_)
                    obtain ⟨z27, rfl, rfl, q28⟩ := h26
                    obtain ⟨rfl, q28⟩ | ⟨rfl, q28⟩ := q28
                    · refine e_Ok.nrm (q := 100) (st' := [(0, 1)]) rfl rfl ?_
                      refine e_Ok.if1 rfl (fun h29 => ?_) (fun h29 => ?_)
                      · replace h29 : (1 : Int) = 0 := h29
                        exfalso; omega
                      · replace h29 : (1 : Int) ≠ 0 := (show ¬ ((1 : Int) = 0) from h29)
                        refine e_Ok.ps1 (x := (0, (-3))) (q := 105) 1 rfl ?_
                        refine e_Ok.rets rfl rfl ?_
                        exact ⟨_, rfl, Or.inl ⟨rfl, fun hc => by first | exact hc.2 (by assumption) | (obtain ⟨t, t1, t2, t3⟩ := hc.1.2; have h1 := j20 (by omega) t t1 (by omega); omega)⟩⟩
                    · refine e_Ok.nrm (q := 100) (st' := [(0, 0)]) rfl rfl ?_
                      refine e_Ok.if1 rfl (fun h30 => ?_) (fun h30 => ?_)
                      · replace h30 : (0 : Int) = 0 := h30
                        refine e_Ok.ps3 (x := (0, p2)) (y := (0, p1)) (z := (1, 275)) (q := 109) 3 rfl ?_
                        have hrt := (hI.2.2.2.2.2.2.2.1 p1 (by omega) (by omega)).2.2.2.2.2.2 p2 (by omega) (by omega)
                        have hrc := (hI.2.2.2.2.2.2.2.1 p1 (by omega) (by omega)).1
                        unfold tgt at hrt
                        refine e_Ok.callV rfl (e_dq hd rfl) rfl rfl rfl rfl (d_359 (e_dq hd rfl) hI.1 (by omega) (by omega) (by omega) htm.2) (fun r31 w32 h33 => ?_)
                        obtain ⟨⟨z35, rfl, q34c⟩, q34x⟩ := h33
                        obtain ⟨rfl, rfl⟩ | ⟨q34z, q34s, q34, q34T, q341, q342, q343, q344, q345, q346, q347⟩ := q34c
                        · refine e_Ok.nrm (q := 112) (st' := [(0, (-1))]) rfl rfl ?_
                          refine e_Ok.run (t' := (119, [(4, (0, (-1))), (0, (1, 275)), (1, (0, p1)), (2, (0, p2)), (3, (0, y3))], [(0, 0), (0, p2), (0, p1), (0, 0), (1, 275)], w)) 6 rfl ?_
                          refine e_Ok.callV rfl (e_dq hd rfl) rfl rfl rfl rfl (c_423_u (e_dq hd rfl) hI.1 hB (fun e => by have e5 : w 275 5 = w 275 5 := rfl; have e6 : w 275 6 = w 275 6 := rfl; have h1 := hB.1; have h2 := (show ¬ mBk w by assumption); unfold mBk at h2; omega) (by decide) (fun e => by omega)) (fun r36 w37 h38 => ?_)
                          obtain ⟨rfl, q40⟩ := h38
                          refine e_Ok.nrm (q := 122) (st' := []) rfl rfl ?_
                          refine e_Ok.ps1 (x := (0, (-1))) (q := 124) 1 rfl ?_
                          refine e_Ok.rets rfl rfl ?_
                          exact ⟨_, rfl, Or.inr ⟨⟨hcond, j21 hy3⟩, by assumption, opS.ev (wm := w) (opS.of (e_fr.refl w) hI q34x q40) q34x (by unfold evG; omega)⟩⟩
                        · refine e_Ok.nrm (q := 112) (st' := [(0, z35)]) rfl rfl ?_
                          have f41 : e_fr mTi w w32 := e_fr.trans (e_fr.refl w) (e_fr.mono q34 (fun c k q => by exact nt_ti q))
                          have hI42 : mInv w32 G := mInv.fresh hI (by omega) (by omega) q34z q34 q34T q342 q343 q344 q345 q346
                          have q34o := q34 276 0 (by unfold mNt; omega)
                          have q34p := q34 276 5 (by unfold mNt; omega)
                          refine e_Ok.run (t' := (119, [(4, (0, z35)), (0, (1, 275)), (1, (0, p1)), (2, (0, p2)), (3, (0, y3))], [(0, 0), (0, p2), (0, p1), (0, 0), (1, 275)], w32)) 6 rfl ?_
                          refine e_Ok.callV rfl (e_dq hd rfl) rfl rfl rfl rfl (c_423_u (e_dq hd rfl) q34T (bkE.fr hB (f41 275 5 no_9c_0) (f41 275 6 no_9c_1) (fun k => f41 356 k no_9c_2)).1 (fun e => by have e5 : w32 275 5 = w 275 5 := f41 275 5 no_9c_0; have e6 : w32 275 6 = w 275 6 := f41 275 6 no_9c_1; have h1 := hB.1; have h2 := (show ¬ mBk w by assumption); unfold mBk at h2; omega) (by decide) (fun e => by omega)) (fun r43 w44 h45 => ?_)
                          obtain ⟨rfl, q46⟩ := h45
                          refine e_Ok.nrm (q := 122) (st' := []) rfl rfl ?_
                          refine e_Ok.ps1 (x := (0, z35)) (q := 124) 1 rfl ?_
                          refine e_Ok.rets rfl rfl ?_
                          have ek0 : w32 276 0 = w 276 0 := ((q34 276 0 (by unfold mNt; omega)).trans rfl)
                          have ek5 : w32 276 5 = w 276 5 := ((q34 276 5 (by unfold mNt; omega)).trans rfl)
                          exact ⟨_, rfl, Or.inr ⟨⟨hcond, j21 hy3⟩, by assumption, opS.ev (wm := w32) (opS.of f41 hI42 q34x q46) q34x (by unfold evG; omega)⟩⟩
                      · replace h30 : (0 : Int) ≠ 0 := (show ¬ ((0 : Int) = 0) from h30)
                        exfalso; omega
                · replace h22 : (y4 : Int) < 16 := Int.not_le.mp (show ¬ ((y4 : Int) ≥ 16) from h22)
                  refine e_Ok.ps2 (x := (1, 275)) (y := (0, y3)) (q := 52) 2 rfl ?_
                  refine e_Ok.getr (z := 276) rfl (el_o rfl) rfl (ef_o rfl) (e_Has.eq hI.1 rfl) ⟨by decide, by decide⟩ ?_
                  refine e_Ok.ps1 (x := (0, y4)) (q := 57) 1 rfl ?_
                  refine e_Ok.callS rfl (e_dq hd rfl) rfl rfl (c_269 (by omega)) (fun r47 w48 h49 => ?_)
                  obtain ⟨rfl, rfl⟩ := h49
                  refine e_Ok.nrm (q := 60) (st' := [(0, 1260 * y4 + 416), (1, 276), (0, y3)]) rfl rfl ?_
                  have h50 := (e_Has.get hI.1 (c := 276) (k := 1260 * y4 + 416) (lo := 0) (hi := 7) (nR_TSTATE (t := y4) (by omega)) (by decide))
                  refine e_Ok.ald (z := w 276 (1260 * y4 + 416)) rfl (el_o rfl) rfl (by omega) rfl (e_bq h50 (by decide) (by decide)) ?_
                  refine e_Ok.if1 rfl (fun h51 => ?_) (fun h51 => ?_)
                  · replace h51 : (w 276 (1260 * y4 + 416) : Int) = 0 := h51
                    refine e_Ok.ps1 (x := (0, 1)) (q := 84) 2 rfl ?_
                    refine e_Ok.or01 (by omega) (by omega) (fun z52 hz52 => ?_) rfl
                    replace hz52 : (0 ≤ z52 ∧ z52 ≤ 1) ∧ (z52 = 0 ↔ ((y3 : Int) = 0 ∧ (1 : Int) = 0)) := hz52
                    refine e_Ok.run (t' := (86, [(3, (0, z52)), (0, (1, 275)), (1, (0, p1)), (2, (0, p2)), (4, (0, y4))], [], w)) 1 rfl ?_
                    refine e_Ok.inc (z := y4 + 1) rfl rfl (by first | with_reducible rfl | omega) (by omega) ?_
                    show e_Ok 20 elay ecode eI (d + 1) 425 (89, [(4, (0, y4 + 1)), (3, (0, z52)), (0, (1, 275)), (1, (0, p1)), (2, (0, p2))], [], w) _
                    refine e_Ok.ps0 (q := 43) 1 rfl ?_
                    refine e_Ok.sub eAlk (e_sub_of rfl ?_) (ih18 z52 (y4 + 1) ⟨by omega, (fun e t g1 g2 => Decidable.byCases (p := t = y4) (fun e1 => by rw [e1]; omega) (fun e1 => j20 (by omega) t g1 (by omega))), (fun e => Decidable.byCases (p := y3 = 1) (fun e1 => j21 e1) (fun e1 => ⟨y4, by omega, by omega, by omega⟩))⟩ (by omega))
                    exact ⟨rfl, rfl, rfl, rfl, rfl, trivial⟩
                  · replace h51 : (w 276 (1260 * y4 + 416) : Int) ≠ 0 := (show ¬ ((w 276 (1260 * y4 + 416) : Int) = 0) from h51)
                    refine e_Ok.ps1 (x := (1, 275)) (q := 65) 1 rfl ?_
                    refine e_Ok.getr (z := 276) rfl (el_o rfl) rfl (ef_o rfl) (e_Has.eq hI.1 rfl) ⟨by decide, by decide⟩ ?_
                    refine e_Ok.ps1 (x := (0, y4)) (q := 70) 1 rfl ?_
                    refine e_Ok.callS rfl (e_dq hd rfl) rfl rfl (c_269 (by omega)) (fun r53 w54 h55 => ?_)
                    obtain ⟨rfl, rfl⟩ := h55
                    refine e_Ok.nrm (q := 73) (st' := [(0, 1260 * y4 + 416), (1, 276), (0, y3)]) rfl rfl ?_
                    refine e_Ok.ald (z := w 276 (1260 * y4 + 416)) rfl (el_o rfl) rfl (by omega) rfl (by omega) ?_
                    refine e_Ok.ps1 (x := (0, 6)) (q := 76) 1 rfl ?_
                    refine e_Ok.if2 rfl (fun h56 => ?_) (fun h56 => ?_)
                    · replace h56 : (w 276 (1260 * y4 + 416) : Int) ≠ 6 := h56
                      refine e_Ok.ps1 (x := (0, 0)) (q := 84) 1 rfl ?_
                      refine e_Ok.or01 (by omega) (by omega) (fun z57 hz57 => ?_) rfl
                      replace hz57 : (0 ≤ z57 ∧ z57 ≤ 1) ∧ (z57 = 0 ↔ ((y3 : Int) = 0 ∧ (0 : Int) = 0)) := hz57
                      refine e_Ok.run (t' := (86, [(3, (0, z57)), (0, (1, 275)), (1, (0, p1)), (2, (0, p2)), (4, (0, y4))], [], w)) 1 rfl ?_
                      refine e_Ok.inc (z := y4 + 1) rfl rfl (by first | with_reducible rfl | omega) (by omega) ?_
                      show e_Ok 20 elay ecode eI (d + 1) 425 (89, [(4, (0, y4 + 1)), (3, (0, z57)), (0, (1, 275)), (1, (0, p1)), (2, (0, p2))], [], w) _
                      refine e_Ok.ps0 (q := 43) 1 rfl ?_
                      refine e_Ok.sub eAlk (e_sub_of rfl ?_) (ih18 z57 (y4 + 1) ⟨by omega, (fun e t g1 g2 => Decidable.byCases (p := t = y4) (fun e1 => by rw [e1]; omega) (fun e1 => j20 (by omega) t g1 (by omega))), (fun e => Decidable.byCases (p := y3 = 1) (fun e1 => j21 e1) (fun e1 => ⟨y4, by omega, by omega, by omega⟩))⟩ (by omega))
                      exact ⟨rfl, rfl, rfl, rfl, rfl, trivial⟩
                    · replace h56 : (w 276 (1260 * y4 + 416) : Int) = 6 := Classical.not_not.mp (show ¬ ((w 276 (1260 * y4 + 416) : Int) ≠ 6) from h56)
                      refine e_Ok.ps1 (x := (0, 1)) (q := 84) 2 rfl ?_
                      refine e_Ok.or01 (by omega) (by omega) (fun z58 hz58 => ?_) rfl
                      replace hz58 : (0 ≤ z58 ∧ z58 ≤ 1) ∧ (z58 = 0 ↔ ((y3 : Int) = 0 ∧ (1 : Int) = 0)) := hz58
                      refine e_Ok.run (t' := (86, [(3, (0, z58)), (0, (1, 275)), (1, (0, p1)), (2, (0, p2)), (4, (0, y4))], [], w)) 1 rfl ?_
                      refine e_Ok.inc (z := y4 + 1) rfl rfl (by first | with_reducible rfl | omega) (by omega) ?_
                      show e_Ok 20 elay ecode eI (d + 1) 425 (89, [(4, (0, y4 + 1)), (3, (0, z58)), (0, (1, 275)), (1, (0, p1)), (2, (0, p2))], [], w) _
                      refine e_Ok.ps0 (q := 43) 1 rfl ?_
                      refine e_Ok.sub eAlk (e_sub_of rfl ?_) (ih18 z58 (y4 + 1) ⟨by omega, (fun e t g1 g2 => Decidable.byCases (p := t = y4) (fun e1 => by rw [e1]; omega) (fun e1 => j20 (by omega) t g1 (by omega))), (fun e => Decidable.byCases (p := y3 = 1) (fun e1 => j21 e1) (fun e1 => ⟨y4, by omega, by omega, by omega⟩))⟩ (by omega))
                      exact ⟨rfl, rfl, rfl, rfl, rfl, trivial⟩
            refine e_Ok.sub eAlk (e_sub_of rfl ?_) (hL17 (17 + 1 : Int).toNat 0 0 ⟨by omega, (fun e t g1 g2 => by omega), (fun e => by omega)⟩ (by omega))
            exact ⟨rfl, rfl, rfl, rfl, rfl, trivial⟩
          · replace h16 : (w 275 3 : Int) = 0 := Classical.not_not.mp (show ¬ ((w 275 3 : Int) ≠ 0) from h16)
            refine e_Ok.ps1 (x := (0, (-2))) (q := 37) 1 rfl ?_
            refine e_Ok.rets rfl rfl ?_
            exact ⟨_, rfl, Or.inl ⟨rfl, fun hc => by have h1 := hc.1.1; omega⟩⟩
        · replace h14 : (1 : Int) = 0 := Classical.not_not.mp (show ¬ ((1 : Int) ≠ 0) from h14)
          exfalso; omega
      · refine e_Ok.nrm (q := 23) (st' := [(0, 0)]) rfl rfl ?_
        refine e_Ok.if1 rfl (fun h59 => ?_) (fun h59 => ?_)
        · replace h59 : (0 : Int) ≠ 0 := h59
          exfalso; omega
        · replace h59 : (0 : Int) = 0 := Classical.not_not.mp (show ¬ ((0 : Int) ≠ 0) from h59)
          refine e_Ok.ps1 (x := (0, (-1))) (q := 27) 1 rfl ?_
          refine e_Ok.rets rfl rfl ?_
          exact ⟨_, rfl, Or.inl ⟨rfl, fun hc => by have h1 := hc.1.1; omega⟩⟩
  · refine e_Ok.nrm (q := 5) (st' := [(0, 0)]) rfl rfl ?_
    refine e_Ok.if1 rfl (fun h60 => ?_) (fun h60 => ?_)
    · replace h60 : (0 : Int) = 0 := h60
      refine e_Ok.ps1 (x := (0, (-1))) (q := 27) 1 rfl ?_
      refine e_Ok.rets rfl rfl ?_
      exact ⟨_, rfl, Or.inl ⟨rfl, fun hc => by have h1 := hc.1.1; omega⟩⟩
    · replace h60 : (0 : Int) ≠ 0 := (show ¬ ((0 : Int) = 0) from h60)
      exfalso; omega
end
end
-- part 9d
section
noncomputable section
/-- a joint of a cell without power is set by hand -/
theorem mMo.hand {w w' : eW} {a j v : Int} (h : mMo w (-1)) (hty : moT w) (ha : 0 ≤ a ∧ a ≤ 3) (haa : a < w 275 10) (hj : 0 ≤ j ∧ j < w 286 a) (hv : w 288 (6 * a + j) ≤ v ∧ v ≤ w 289 (6 * a + j)) (hP : w 276 1 = 0)
    (hf : ∀ c k, (moK c k ∨ (c = 276 ∧ 16 ≤ k ∧ k < 160)) → ¬ (c = 276 ∧ (k = 36 * a + j + 32 ∨ (k < 160 ∧ ((k - 16) % 36 = 4 ∨ (k - 16) % 36 = 5)))) → w' c k = w c k) (hV : w' 276 (36 * a + j + 32) = v)
    (hF : (∀ b, 0 ≤ b → b < w 275 10 → w' 276 (36 * b + 20) = 0) ∨ ((∀ b, 0 ≤ b → b ≤ 3 → w' 276 (36 * b + 20) = w 276 (36 * b + 20)) ∧ w 276 (36 * a + j + 32) = v)) (hF2 : ∀ b, 0 ≤ b → b ≤ 3 → w' 276 (36 * b + 20) = 0 ∨ w' 276 (36 * b + 20) = w 276 (36 * b + 20)) : mMo w' (-1) := by
  obtain ⟨h1, h2, h3⟩ := h
  have f5 : ∀ c k, c = 286 ∨ c = 288 ∨ c = 289 ∨ c = 291 → w' c k = w c k := fun c k q => hf c k (Or.inl (by unfold moK; omega)) (by omega)
  have s0 := h3 hP a ha.1 haa
  have yy0 := hty.2 a ha.1 ha.2
  refine ⟨fun b i g1 g2 g3 g4 => ?_, fun b g1 g2 => ?_, fun e b g1 g2 => ?_⟩
  · rw [f5 286 _ (by omega)] at g4
    have y := hty.2 b g1 g2
    have q := h1 b i g1 g2 g3 g4
    unfold moJ at q ⊢
    rw [hf 276 (36 * b + i + 38) (Or.inr (by omega)) (by omega), hf 276 (36 * b + i + 44) (Or.inr (by omega)) (by omega), hf 276 (36 * b + 16) (Or.inr (by omega)) (by omega), f5 288 _ (by omega), f5 289 _ (by omega), f5 291 _ (by omega)]
    by_cases e : b = a ∧ i = j
    · obtain ⟨rfl, rfl⟩ := e
      rw [hV, s0]
      rw [s0] at q
      exact ⟨hv, q.2.1, by omega, by omega⟩
    · have y2 := hty.2 a ha.1 ha.2
      rw [hf 276 (36 * b + i + 32) (Or.inr (by omega)) (by omega)]
      exact q
  · obtain ⟨y1, y2, y3, y4⟩ := hty.2 b g1 g2
    have yy := hty.2 a ha.1 ha.2
    have f1 := hf 276 (36 * b + 19) (Or.inr (by omega)) (by omega)
    have f3 := hf 276 (36 * b + 23) (Or.inr (by omega)) (by omega)
    have f4 := hf 276 (36 * b + 26) (Or.inr (by omega)) (by omega)
    have f6 : ∀ k, 21060 ≤ k → k < 25060 → w' 276 k = w 276 k := fun k q1 q2 => hf 276 k (Or.inl (by unfold moK; omega)) (by omega)
    have f7 : w' 275 10 = w 275 10 := hf 275 10 (Or.inl (by unfold moK; omega)) (by omega)
    obtain ⟨q1, q2⟩ := h2 b g1 g2
    refine ⟨fun e => ?_, fun e => ?_⟩
    · have e1 : w 276 (36 * b + 20) = 1 := by have := hF2 b g1 g2; omega
      obtain ⟨z1, z2, P, z3, z4⟩ := q1 e1
      rcases hF with hF | hF
      · have := hF b g1 z1; omega
      · refine ⟨by rw [f7]; exact z1, by rw [f1]; exact z2, P, z3.fr ⟨g1, g2⟩ (by omega) y1 f1 f4 (fun c k q => f5 c k (by omega)) f6, fun i g3 g4 => ?_⟩
        rw [f5 286 _ (by omega)] at g4
        have z5 := z4 i g3 g4
        by_cases e : b = a ∧ i = j
        · obtain ⟨rfl, rfl⟩ := e
          rw [hV, z5]; exact hF.2
        · rw [hf 276 (36 * b + i + 32) (Or.inr (by omega)) (by omega)]
          exact z5
    · rw [hf 276 (36 * b + 22) (Or.inr (by omega)) (by omega)] at e
      obtain ⟨z1, z2, P, z3, z4⟩ := q2 e
      rw [f3, f1, hf 276 (36 * b + 16) (Or.inr (by omega)) (by omega)]
      refine ⟨z1, z2, P, z3.fr ⟨g1, g2⟩ y2 y1 f1 f4 (fun c k q => f5 c k (by omega)) f6, fun i g3 g4 => ⟨fun _ => ?_, fun e => by omega⟩⟩
      rw [f5 286 _ (by omega)] at g4
      rw [hf 276 (36 * b + i + 44) (Or.inr (by omega)) (by omega)]
      exact (z4 i g3 g4).1 (by omega)
  · rw [hf 276 1 (Or.inl (by unfold moK; omega)) (by omega)] at e
    rw [hf 275 10 (Or.inl (by unfold moK; omega)) (by omega)] at g2
    have := hty.1
    rw [hf 276 (36 * b + 16) (Or.inr (by omega)) (by omega)]
    exact h3 e b g1 g2
/-- power is given -/
theorem mMo.power {w w' : eW} (h : mMo w (-1)) (hty : moT w) (hf : ∀ c k, (moK c k ∨ (c = 276 ∧ 16 ≤ k ∧ k < 160)) → ¬ (c = 276 ∧ k = 1) → w' c k = w c k) (hP : w' 276 1 ≠ 0) : mMo w' (-1) := by
  obtain ⟨h1, h2, h3⟩ := h
  have f5 : ∀ c k, c = 286 ∨ c = 288 ∨ c = 289 ∨ c = 291 → w' c k = w c k := fun c k q => hf c k (Or.inl (by unfold moK; omega)) (by omega)
  refine ⟨fun b i g1 g2 g3 g4 => ?_, fun b g1 g2 => ?_, fun e => absurd e hP⟩
  · rw [f5 286 _ (by omega)] at g4
    have y := hty.2 b g1 g2
    have q := h1 b i g1 g2 g3 g4
    unfold moJ at q ⊢
    rw [hf 276 (36 * b + i + 32) (Or.inr (by omega)) (by omega), hf 276 (36 * b + i + 38) (Or.inr (by omega)) (by omega), hf 276 (36 * b + i + 44) (Or.inr (by omega)) (by omega), hf 276 (36 * b + 16) (Or.inr (by omega)) (by omega), f5 288 _ (by omega), f5 289 _ (by omega), f5 291 _ (by omega)]
    exact q
  · refine (h2 b g1 g2).fr hty ⟨g1, g2⟩ (fun c k q q2 => hf c k (Or.inl q) (by omega)) (fun e => ?_)
    rw [hf 276 (36 * b + 16) (Or.inr (by omega)) (by omega)]
    rw [hf 276 (36 * b + 22) (Or.inr (by omega)) (by omega)] at e
    exact ⟨rfl, e⟩
/-- the arm a takes up its fresh way -/
theorem mMo.take {w w' : eW} {a : Int} (h : mMo w (-1)) (hty : moT w) (ha : 0 ≤ a ∧ a ≤ 3) (hF : w 276 (36 * a + 20) = 1) (hf : ∀ c k, (moK c k ∨ (c = 276 ∧ 16 ≤ k ∧ k < 160)) → ¬ (c = 276 ∧ (k = 36 * a + 22 ∨ k = 36 * a + 23)) → w' c k = w c k) (h23 : w' 276 (36 * a + 23) = 0) : mMo w' a := by
  obtain ⟨h1, h2, h3⟩ := h
  have f5 : ∀ c k, c = 286 ∨ c = 288 ∨ c = 289 ∨ c = 291 → w' c k = w c k := fun c k q => hf c k (Or.inl (by unfold moK; omega)) (by omega)
  refine ⟨fun b i g1 g2 g3 g4 => ?_, fun b g1 g2 => ?_, fun e b g1 g2 => ?_⟩
  · rw [f5 286 _ (by omega)] at g4
    have y := hty.2 b g1 g2
    have q := h1 b i g1 g2 g3 g4
    unfold moJ at q ⊢
    rw [hf 276 (36 * b + i + 32) (Or.inr (by omega)) (by omega), hf 276 (36 * b + i + 38) (Or.inr (by omega)) (by omega), hf 276 (36 * b + i + 44) (Or.inr (by omega)) (by omega), hf 276 (36 * b + 16) (Or.inr (by omega)) (by omega), f5 288 _ (by omega), f5 289 _ (by omega), f5 291 _ (by omega)]
    exact q
  · by_cases e : b = a
    · subst e
      obtain ⟨y1, y2, y3, y4⟩ := hty.2 b g1 g2
      have f1 := hf 276 (36 * b + 19) (Or.inr (by omega)) (by omega)
      have f4 := hf 276 (36 * b + 26) (Or.inr (by omega)) (by omega)
      have f6 : ∀ k, 21060 ≤ k → k < 25060 → w' 276 k = w 276 k := fun k q1 q2 => hf 276 k (Or.inl (by unfold moK; omega)) (by omega)
      obtain ⟨z1, z2, P, z3, z4⟩ := (h2 b g1 g2).1 hF
      have z3' := z3.fr ⟨g1, g2⟩ (by omega) y1 f1 f4 (fun c k q => f5 c k (by omega)) f6
      have z4' : ∀ j, 0 ≤ j → j < w' 286 b → P 0 j = w' 276 (36 * b + j + 32) := fun j g3 g4 => by
        rw [f5 286 _ (by omega)] at g4
        rw [hf 276 (36 * b + j + 32) (Or.inr (by omega)) (by omega)]
        exact z4 j g3 g4
      refine ⟨fun _ => ⟨by rw [hf 275 10 (Or.inl (by unfold moK; omega)) (by omega)]; exact z1, by rw [f1]; exact z2, P, z3', z4'⟩, fun _ => ?_⟩
      rw [h23]
      exact ⟨Or.inl rfl, by rw [f1]; exact z2, P, z3', fun j g3 g4 => ⟨fun q => absurd rfl q, fun _ => z4' j g3 g4⟩⟩
    · refine ((h2 b g1 g2).ne (x' := a) (by omega) e).fr hty ⟨g1, g2⟩ (fun c k q q2 => hf c k (Or.inl q) (by omega)) (fun e9 => ?_)
      rw [hf 276 (36 * b + 16) (Or.inr (by omega)) (by omega)]
      rw [hf 276 (36 * b + 22) (Or.inr (by omega)) (by omega)] at e9
      exact ⟨rfl, e9⟩
  · rw [hf 276 1 (Or.inl (by unfold moK; omega)) (by omega)] at e
    rw [hf 275 10 (Or.inl (by unfold moK; omega)) (by omega)] at g2
    have := hty.1
    rw [hf 276 (36 * b + 16) (Or.inr (by omega)) (by omega)]
    exact h3 e b g1 g2
theorem st_hd {a j c k : Int} (q : mSt c k) : c = 276 ∧ (k = 36 * a + j + 32 ∨ (k < 160 ∧ ((k - 16) % 36 = 4 ∨ (k - 16) % 36 = 5))) := by unfold mSt at q; omega
theorem mInv.hand {w w1 w' : eW} {G : Int → Gh} {a j v : Int} (h : mInv w G) (ha : 0 ≤ a ∧ a ≤ 3) (haa : a < w 275 10) (hj : 0 ≤ j ∧ j < w 286 a) (hv : w 288 (6 * a + j) ≤ v ∧ v ≤ w 289 (6 * a + j)) (hP : w 276 1 = 0) (h1 : e_up w 276 (36 * a + j + 32) v = w1) (hF : e_fr mSt w1 w') (hT : e_Has mTy w')
    (hS : (∀ b, 0 ≤ b → b < w 275 10 → w' 276 (36 * b + 20) = 0) ∨ ((∀ b, 0 ≤ b → b ≤ 3 → w' 276 (36 * b + 20) = w1 276 (36 * b + 20)) ∧ w 276 (36 * a + j + 32) = v)) (hS2 : ∀ b, 0 ≤ b → b ≤ 3 → w' 276 (36 * b + 20) = 0 ∨ w' 276 (36 * b + 20) = w1 276 (36 * b + 20)) : mInv w' G := by
  have h0 := h
  obtain ⟨t1, -, -, -, -, h6, h7, h8, h9⟩ := h0
  have hp := e_Has.get t1 (c := 275) (k := 40) (lo := 0) (hi := 32) rfl (by decide)
  have hj6 := e_Has.get t1 (c := 286) (k := a) (lo := 0) (hi := 6) rfl (by decide)
  have hX : e_fr (fun c k => c = 276 ∧ (k = 36 * a + j + 32 ∨ (16 ≤ k ∧ k < 160 ∧ ((k - 16) % 36 = 4 ∨ (k - 16) % 36 = 5)))) w w' := fun c k q => by
    rw [hF c k (fun q1 => q (by unfold mSt at q1; omega)), ← h1]
    exact e_up_ne _ _ (by omega)
  have e20 : ∀ b, 0 ≤ b → b ≤ 3 → w1 276 (36 * b + 20) = w 276 (36 * b + 20) := fun b g1 g2 => by rw [← h1]; exact e_up_ne _ _ (Or.inr (by omega))
  have eV : w' 276 (36 * a + j + 32) = v := by
    rw [hF _ _ (by unfold mSt; omega), ← h1]
    exact e_up_eq _ _ _ _
  refine h.next hX hT (fun c k q => by unfold cfN; omega) (mMo.hand h6 (e_Has.mo t1) ha haa hj hv hP (fun c k q q2 => hX c k (fun q1 => q2 (by omega))) eV (hS.imp id (fun q => ⟨fun b g1 g2 => (q.1 b g1 g2).trans (e20 b g1 g2), q.2⟩)) (fun b g1 g2 => by rw [← e20 b g1 g2]; exact hS2 b g1 g2)) (mOr.fr h7 hp.2 (e_Has.orn t1) (e_Has.orw t1 hp.2) (fun k q => hX _ _ (fun q1 => by unfold orK at q; omega))) (fun v v1 v2 => tkOk.hop h8 (h9 v v1 v2) hX (fun c k q => ⟨by omega, fun _ => ⟨by omega, fun q2 => by unfold tkK at q2; omega⟩⟩))
theorem d_390 {d : Nat} (hd : 21 ≤ d) {w : eW} (hT : e_Has mTy w) {a : Int} : e_Ok 20 elay ecode eI d 390 (0, [(0, (1, 275)), (1, (0, a))], [], w) (fun r w' => (r = [] ∧ e_fr mSt w w' ∧ e_Has mTy w' ∧ (∀ b, 0 ≤ b → b < w 275 10 → w' 276 (36 * b + 20) = 0) ∧ ∀ b, 0 ≤ b → b ≤ 3 → w' 276 (36 * b + 20) = 0 ∨ w' 276 (36 * b + 20) = w 276 (36 * b + 20)) ∧ ∀ k, w' 276 k = nowF 390 [(0, (1, 275)), (1, (0, a))] w k) :=
  (e_Ok.detN (l := [(0, (1, 275)), (1, (0, a))]) (show ([0, 1] : List Nat).Nodup by decide) (fun u hu => c_390 hd (hT.low hu)) (fun u r v hu q => q.2.2.1)).imp (fun r v h => ⟨h.1, h.2.1⟩)
theorem mCf.low {w u : eW} (h : mCf w) (hu : ∀ c k, K0 c k → u c k = w c k) : mCf u := h.fr (fun c k q => hu c k (by rcases q with rfl | rfl | rfl; exact (by decide : (0 : Int) ≤ 6); exact (by decide : (0 : Int) ≤ 2000); exact (by decide : (0 : Int) ≤ 2000)))
theorem d_391 {d : Nat} (hd : 22 ≤ d) {w : eW} (hT : e_Has mTy w) (hCf : mCf w) {a : Int} (ha : 0 ≤ a ∧ a ≤ 3) (hMo : mMo w a) (hS : w 276 (36 * a + 16) = 0) (hPw : w 276 1 = 1) : e_Ok 20 elay ecode eI d 391 (0, [(0, (1, 275)), (1, (0, a))], [], w) (fun r w' => (r = [] ∧ e_fr (mNw a) w w' ∧ e_Has mTy w' ∧ mMo w' (-1)) ∧ ∀ k, w' 276 k = nowF 391 [(0, (1, 275)), (1, (0, a))] w k) :=
  (e_Ok.detN (l := [(0, (1, 275)), (1, (0, a))]) (show ([0, 1] : List Nat).Nodup by decide) (fun u hu => c_391 hd (hT.low hu) (hCf.low hu) ha (mMo.same hMo (e_Has.mo hT) (fun c k q => hu c k (K0_mo q))) (by rw [hu 276 _ (K0_now _)]; exact hS) (by rw [hu 276 1 (K0_now 1)]; exact hPw)) (fun u r v hu q => q.2.2.1)).imp (fun r v h => ⟨h.1, h.2.1⟩)
theorem su_9d_0 {a : Int} {c k : Int} (q : mNw a c k) : cfN c k := by
  unfold mNw at q
  rcases q with ⟨q, (q | ⟨q, q⟩ | q | ⟨q, q⟩)⟩
  · exact ⟨(by omega), ⟨(by omega), ⟨(by omega), ⟨(by omega), ⟨(by omega), ⟨(by omega), (by omega)⟩⟩⟩⟩⟩⟩
  · exact ⟨(by omega), ⟨(by omega), ⟨(by omega), ⟨(by omega), ⟨(by omega), ⟨(by omega), (by omega)⟩⟩⟩⟩⟩⟩
  · exact ⟨(by omega), ⟨(by omega), ⟨(by omega), ⟨(by omega), ⟨(by omega), ⟨(by omega), (by omega)⟩⟩⟩⟩⟩⟩
  · exact ⟨(by omega), ⟨(by omega), ⟨(by omega), ⟨(by omega), ⟨(by omega), ⟨(by omega), (by omega)⟩⟩⟩⟩⟩⟩
theorem mInv.way {w w' : eW} {G : Int → Gh} {a : Int} (h : mInv w G) (ha : 0 ≤ a ∧ a ≤ 3) (hF : e_fr (mNw a) w w') (hT : e_Has mTy w') (hM : mMo w' (-1)) : mInv w' G := by
  have h0 := h
  obtain ⟨t1, -, -, -, -, -, h7, h8, h9⟩ := h0
  have hp := e_Has.get t1 (c := 275) (k := 40) (lo := 0) (hi := 32) rfl (by decide)
  exact h.next hF hT (fun c k q => by first | exact su_9d_0 q | (unfold mNw at q; unfold cfN; omega)) hM (mOr.fr h7 hp.2 (e_Has.orn t1) (e_Has.orw t1 hp.2) (fun k q => hF _ _ (fun q1 => by unfold mNw at q1; unfold orK at q; omega))) (fun v v1 v2 => tkOk.hop h8 (h9 v v1 v2) hF (fun c k q => by unfold mNw at q; exact ⟨by omega, fun _ => ⟨by omega, fun q2 => by unfold tkK at q2; omega⟩⟩))
end
end
-- part 9e
section
noncomputable section
theorem st_ti {c k : Int} (q : mSt c k) : mTi c k := by unfold mSt at q; unfold mTi; omega
theorem nw_ti {a c k : Int} (q : mNw a c k) : mTi c k := by unfold mNw at q; unfold mTi; omega
theorem c_271_x {d : Nat} (hd : 22 ≤ d) {w : eW} (hT : e_Has mTy w) {a j : Int} : e_Ok 20 elay ecode eI d 271 (0, [(0, (1, 275)), (1, (0, a)), (2, (0, j))], [], w) (fun r w' => ∃ z : Int, r = [(0, z)] ∧ w = w' ∧ ((z = 1 ∧ (0 ≤ a ∧ a < w 275 10) ∧ 0 ≤ j ∧ j < w 286 a) ∨ (z = 0 ∧ ¬ ((0 ≤ a ∧ a < w 275 10) ∧ 0 ≤ j ∧ j < w 286 a)))) := by
  obtain ⟨d, rfl⟩ : ∃ e, d = e + 1 := ⟨d - 1, by omega⟩
  refine e_Ok.ps2 (x := (0, a)) (y := (1, 275)) (q := 2) 2 rfl ?_
  refine e_Ok.callV rfl (e_dq hd rfl) rfl rfl rfl rfl (c_270 (e_dq hd rfl) hT) (fun r1 w2 h3 => ?_)
  have h4 := e_Has.get hT (c := 275) (k := 10) (lo := 0) (hi := 4) (mt_o rfl) (by decide)
  obtain ⟨z5, rfl, rfl, q6⟩ := h3
  obtain ⟨rfl, q6⟩ | ⟨rfl, q6⟩ := q6
  · refine e_Ok.nrm (q := 5) (st' := [(0, 1)]) rfl rfl ?_
    refine e_Ok.if1 rfl (fun h7 => ?_) (fun h7 => ?_)
    · replace h7 : (1 : Int) = 0 := h7
      exfalso; omega
    · replace h7 : (1 : Int) ≠ 0 := (show ¬ ((1 : Int) = 0) from h7)
      refine e_Ok.ps3 (x := (1, 275)) (y := (4, 0)) (z := (4, j)) (q := 12) 4 rfl ?_
      refine e_Ok.getr (z := 286) rfl (el_o rfl) rfl (ef_o rfl) (e_Has.eq hT (mt_o rfl)) ⟨by decide, by decide⟩ ?_
      refine e_Ok.ps1 (x := (0, a)) (q := 16) 1 rfl ?_
      have h8 := (e_Has.get hT (c := 286) (k := a) (lo := 0) (hi := 6) (mt_o rfl) (by decide))
      refine e_Ok.ald (z := w 286 a) rfl (el_o rfl) rfl (by omega) rfl (e_bq h8 (by decide) (by decide)) ?_
      refine e_Ok.ps1 (x := (0, 1)) (q := 18) 1 rfl ?_
      refine e_Ok.sub' (z := w 286 a - 1) rfl rfl (by omega) ?_
      refine e_Ok.run (t' := (20, [(0, (1, 275)), (1, (0, a)), (2, (0, j))], [(4, w 286 a - 1), (4, 0), (4, j)], w)) 1 rfl ?_
      refine e_Ok.callS rfl (e_dq hd rfl) rfl rfl (c_266) (fun r9 w10 h11 => ?_)
      obtain ⟨z12, rfl, rfl, q13⟩ := h11
      obtain ⟨rfl, q13⟩ | ⟨rfl, q13⟩ := q13
      · refine e_Ok.nrm (q := 23) (st' := [(0, 1)]) rfl rfl ?_
        refine e_Ok.if1 rfl (fun h14 => ?_) (fun h14 => ?_)
        · replace h14 : (1 : Int) = 0 := h14
          exfalso; omega
        · replace h14 : (1 : Int) ≠ 0 := (show ¬ ((1 : Int) = 0) from h14)
          refine e_Ok.ps1 (x := (0, 1)) (q := 31) 2 rfl ?_
          refine e_Ok.rets rfl rfl ?_
          exact ⟨_, rfl, rfl, Or.inl ⟨rfl, by omega, by omega⟩⟩
      · refine e_Ok.nrm (q := 23) (st' := [(0, 0)]) rfl rfl ?_
        refine e_Ok.if1 rfl (fun h15 => ?_) (fun h15 => ?_)
        · replace h15 : (0 : Int) = 0 := h15
          refine e_Ok.ps1 (x := (0, 0)) (q := 31) 1 rfl ?_
          refine e_Ok.rets rfl rfl ?_
          exact ⟨_, rfl, rfl, Or.inr ⟨rfl, by omega⟩⟩
        · replace h15 : (0 : Int) ≠ 0 := (show ¬ ((0 : Int) = 0) from h15)
          exfalso; omega
  · refine e_Ok.nrm (q := 5) (st' := [(0, 0)]) rfl rfl ?_
    refine e_Ok.if1 rfl (fun h16 => ?_) (fun h16 => ?_)
    · replace h16 : (0 : Int) = 0 := h16
      refine e_Ok.ps1 (x := (0, 0)) (q := 31) 1 rfl ?_
      refine e_Ok.rets rfl rfl ?_
      exact ⟨_, rfl, rfl, Or.inr ⟨rfl, by omega⟩⟩
    · replace h16 : (0 : Int) ≠ 0 := (show ¬ ((0 : Int) = 0) from h16)
      exfalso; omega
theorem no_9e_0 : ¬ mTi 275 5 := by unfold mTi; omega
theorem no_9e_1 : ¬ mTi 275 6 := by unfold mTi; omega
theorem no_9e_2 {k : Int} : ¬ mTi 356 k := by unfold mTi; omega
theorem no_9e_3 : ¬ mSt 276 0 := by unfold mSt; omega
theorem no_9e_4 : ¬ mSt 276 5 := by unfold mSt; omega
set_option maxHeartbeats 4000000 in
theorem c_433 {d : Nat} (hd : 27 ≤ d) {w : eW} {G : Int → Gh} (hI : mInv w G) (hB : bkE w) (hE : w 276 5 ≤ 7000000) {p1 p2 p3 : Int} (g1 : -2147483648 ≤ p1 ∧ p1 ≤ 2147483647) (g2 : -2147483648 ≤ p2 ∧ p2 ≤ 2147483647) (g3 : -2147483648 ≤ p3 ∧ p3 ≤ 2147483647) : e_Ok 20 elay ecode eI d 433 (0, [(0, (1, 275)), (1, (0, p1)), (2, (0, p2)), (3, (0, p3))], [], w) (fun r w' => ∃ z : Int, r = [(0, z)] ∧ ((w = w' ∧ ¬ (((0 ≤ p1 ∧ p1 < w 275 10 ∧ 0 ≤ p2 ∧ p2 < w 286 p1) ∧ (w 288 (6 * p1 + p2) ≤ p3 ∧ p3 ≤ w 289 (6 * p1 + p2)) ∧ w 275 3 = 1 ∧ w 276 1 ≠ 1) ∧ ¬ mBk w)) ∨ (((0 ≤ p1 ∧ p1 < w 275 10 ∧ 0 ≤ p2 ∧ p2 < w 286 p1) ∧ (w 288 (6 * p1 + p2) ≤ p3 ∧ p3 ≤ w 289 (6 * p1 + p2)) ∧ w 275 3 = 1 ∧ w 276 1 ≠ 1) ∧ ¬ mBk w ∧ opS w w' G 8 p1 p2 p3 (fun k => if w 276 (36 * p1 + p2 + 32) = p3 then e_up w 276 (36 * p1 + p2 + 32) p3 276 k else nowF 390 [(0, (1, 275)), (1, (0, p1))] (e_up w 276 (36 * p1 + p2 + 32) p3) k) ∧ evG w w'))) := by
  obtain ⟨d, rfl⟩ : ∃ e, d = e + 1 := ⟨d - 1, by omega⟩
  have hpw := e_Has.get hI.1 (c := 276) (k := 1) (lo := 0) (hi := 1) rfl (by decide)
  have har := e_Has.get hI.1 (c := 275) (k := 10) (lo := 0) (hi := 4) rfl (by decide)
  refine e_Ok.ps3 (x := (0, p2)) (y := (0, p1)) (z := (1, 275)) (q := 3) 3 rfl ?_
  refine e_Ok.callV rfl (e_dq hd rfl) rfl rfl rfl rfl (c_271_x (e_dq hd rfl) hI.1) (fun r1 w2 h3 => ?_)
  obtain ⟨z4, rfl, rfl, q5⟩ := h3
  have h6 := e_Has.get hI.1 (c := 275) (k := 10) (lo := 0) (hi := 4) rfl (by decide)
  have h7 := e_Has.get hI.1 (c := 286) (k := p1) (lo := 0) (hi := 6) rfl (by decide)
  obtain ⟨rfl, q5⟩ | ⟨rfl, q5⟩ := q5
  · refine e_Ok.nrm (q := 6) (st' := [(0, 1)]) rfl rfl ?_
    refine e_Ok.if1 rfl (fun h8 => ?_) (fun h8 => ?_)
    · replace h8 : (1 : Int) = 0 := h8
      exfalso; omega
    · replace h8 : (1 : Int) ≠ 0 := (show ¬ ((1 : Int) = 0) from h8)
      refine e_Ok.ps2 (x := (1, 275)) (y := (4, p3)) (q := 12) 3 rfl ?_
      refine e_Ok.getr (z := 288) rfl (el_o rfl) rfl (ef_o rfl) (e_Has.eq hI.1 rfl) ⟨by decide, by decide⟩ ?_
      refine e_Ok.ps2 (x := (0, p1)) (y := (0, 6)) (q := 18) 2 rfl ?_
      refine e_Ok.mul (z := 6 * p1) rfl rfl (by omega) ?_
      refine e_Ok.ps1 (x := (0, p2)) (q := 20) 1 rfl ?_
      refine e_Ok.add (z := 6 * p1 + p2) rfl rfl (by omega) ?_
      have h9 := (e_Has.get hI.1 (c := 288) (k := 6 * p1 + p2) (lo := (-100000)) (hi := 0) rfl (by decide))
      refine e_Ok.ald (z := w 288 (6 * p1 + p2)) rfl (el_o rfl) rfl (by omega) rfl (e_bq h9 (by decide) (by decide)) ?_
      refine e_Ok.run (t' := (24, [(0, (1, 275)), (1, (0, p1)), (2, (0, p2)), (3, (0, p3))], [(1, 275), (4, w 288 (6 * p1 + p2)), (4, p3)], w)) 2 rfl ?_
      refine e_Ok.getr (z := 289) rfl (el_o rfl) rfl (ef_o rfl) (e_Has.eq hI.1 rfl) ⟨by decide, by decide⟩ ?_
      refine e_Ok.ps2 (x := (0, p1)) (y := (0, 6)) (q := 30) 2 rfl ?_
      refine e_Ok.mul (z := 6 * p1) rfl rfl (by omega) ?_
      refine e_Ok.ps1 (x := (0, p2)) (q := 32) 1 rfl ?_
      refine e_Ok.add (z := 6 * p1 + p2) rfl rfl (by omega) ?_
      have h10 := (e_Has.get hI.1 (c := 289) (k := 6 * p1 + p2) (lo := 0) (hi := 100000) rfl (by decide))
      refine e_Ok.ald (z := w 289 (6 * p1 + p2)) rfl (el_o rfl) rfl (by omega) rfl (e_bq h10 (by decide) (by decide)) ?_
      refine e_Ok.run (t' := (35, [(0, (1, 275)), (1, (0, p1)), (2, (0, p2)), (3, (0, p3))], [(4, w 289 (6 * p1 + p2)), (4, w 288 (6 * p1 + p2)), (4, p3)], w)) 1 rfl ?_
      refine e_Ok.callS rfl (e_dq hd rfl) rfl rfl (c_266) (fun r11 w12 h13 => ?_)
      obtain ⟨z14, rfl, rfl, q15⟩ := h13
      obtain ⟨rfl, q15⟩ | ⟨rfl, q15⟩ := q15
      · refine e_Ok.nrm (q := 38) (st' := [(0, 1)]) rfl rfl ?_
        refine e_Ok.if1 rfl (fun h16 => ?_) (fun h16 => ?_)
        · replace h16 : (1 : Int) ≠ 0 := h16
          refine e_Ok.ps1 (x := (1, 275)) (q := 44) 1 rfl ?_
          have h17 := (e_Has.get hI.1 (c := 275) (k := 3) (lo := 0) (hi := 1) rfl (by decide))
          refine e_Ok.getf (z := w 275 3) rfl (el_o rfl) rfl (ef_o rfl) rfl (e_bq h17 (by decide) (by decide)) ?_
          refine e_Ok.if1 rfl (fun h18 => ?_) (fun h18 => ?_)
          · replace h18 : (w 275 3 : Int) = 0 := h18
            refine e_Ok.ps1 (x := (0, (-2))) (q := 62) 1 rfl ?_
            refine e_Ok.rets rfl rfl ?_
            exact ⟨_, rfl, Or.inl ⟨rfl, fun hc => by first | exact hc.2 (by assumption) | (have h1 := hc.1; omega)⟩⟩
          · replace h18 : (w 275 3 : Int) ≠ 0 := (show ¬ ((w 275 3 : Int) = 0) from h18)
            refine e_Ok.ps1 (x := (1, 275)) (q := 51) 1 rfl ?_
            refine e_Ok.getr (z := 276) rfl (el_o rfl) rfl (ef_o rfl) (e_Has.eq hI.1 rfl) ⟨by decide, by decide⟩ ?_
            refine e_Ok.ps1 (x := (0, 1)) (q := 55) 1 rfl ?_
            have h19 := (e_Has.get hI.1 (c := 276) (k := 1) (lo := 0) (hi := 1) rfl (by decide))
            refine e_Ok.ald (z := w 276 1) rfl (el_o rfl) rfl (by omega) rfl (e_bq h19 (by decide) (by decide)) ?_
            refine e_Ok.ps1 (x := (0, 1)) (q := 57) 1 rfl ?_
            refine e_Ok.if2 rfl (fun h20 => ?_) (fun h20 => ?_)
            · replace h20 : (w 276 1 : Int) ≠ 1 := h20
              have hcond : ((0 ≤ p1 ∧ p1 < w 275 10 ∧ 0 ≤ p2 ∧ p2 < w 286 p1) ∧ (w 288 (6 * p1 + p2) ≤ p3 ∧ p3 ≤ w 289 (6 * p1 + p2)) ∧ w 275 3 = 1 ∧ w 276 1 ≠ 1) := ⟨by omega, by omega, by omega, by omega⟩
              refine e_Ok.ps1 (x := (1, 275)) (q := 64) 1 rfl ?_
              refine e_Ok.callV rfl (e_dq hd rfl) rfl rfl rfl rfl (c_422_x hI.1 hB) (fun r21 w22 h23 => ?_)
              obtain ⟨z24, rfl, rfl, q25⟩ := h23
              obtain ⟨rfl, q25⟩ | ⟨rfl, q25⟩ := q25
              · refine e_Ok.nrm (q := 67) (st' := [(0, 1)]) rfl rfl ?_
                refine e_Ok.if1 rfl (fun h26 => ?_) (fun h26 => ?_)
                · replace h26 : (1 : Int) = 0 := h26
                  exfalso; omega
                · replace h26 : (1 : Int) ≠ 0 := (show ¬ ((1 : Int) = 0) from h26)
                  refine e_Ok.ps1 (x := (0, (-3))) (q := 72) 1 rfl ?_
                  refine e_Ok.rets rfl rfl ?_
                  exact ⟨_, rfl, Or.inl ⟨rfl, fun hc => by first | exact hc.2 (by assumption) | (have h1 := hc.1; omega)⟩⟩
              · refine e_Ok.nrm (q := 67) (st' := [(0, 0)]) rfl rfl ?_
                refine e_Ok.if1 rfl (fun h27 => ?_) (fun h27 => ?_)
                · replace h27 : (0 : Int) = 0 := h27
                  refine e_Ok.ps1 (x := (1, 275)) (q := 74) 1 rfl ?_
                  refine e_Ok.getr (z := 276) rfl (el_o rfl) rfl (ef_o rfl) (e_Has.eq hI.1 rfl) ⟨by decide, by decide⟩ ?_
                  refine e_Ok.ps1 (x := (0, p1)) (q := 78) 1 rfl ?_
                  refine e_Ok.callS rfl (e_dq hd rfl) rfl rfl (c_268 (by omega)) (fun r28 w29 h30 => ?_)
                  obtain ⟨rfl, rfl⟩ := h30
                  refine e_Ok.nrm (q := 81) (st' := [(0, 36 * p1 + 16), (1, 276)]) rfl rfl ?_
                  refine e_Ok.ps1 (x := (0, 16)) (q := 83) 1 rfl ?_
                  refine e_Ok.add (z := 36 * p1 + 32) rfl (e_adl (by decide)) (by omega) ?_
                  refine e_Ok.ps1 (x := (0, p2)) (q := 85) 1 rfl ?_
                  refine e_Ok.add (z := 36 * p1 + p2 + 32) rfl (by omega) (by omega) ?_
                  have h31 := (e_Has.get hI.1 (c := 276) (k := 36 * p1 + p2 + 32) (lo := (-100000)) (hi := 100000) (nR_VALUE (a := p1) (j := p2) (by omega) (by omega)) (by decide))
                  refine e_Ok.ald (z := w 276 (36 * p1 + p2 + 32)) rfl (el_o rfl) rfl (by omega) rfl (e_bq h31 (by decide) (by decide)) ?_
                  refine e_Ok.run (t' := (89, [(4, (0, w 276 (36 * p1 + p2 + 32))), (0, (1, 275)), (1, (0, p1)), (2, (0, p2)), (3, (0, p3))], [], w)) 1 rfl ?_
                  have hb288 := e_Has.get hI.1 (c := 288) (k := 6 * p1 + p2) (lo := -100000) (hi := 0) rfl (by decide)
                  have hb289 := e_Has.get hI.1 (c := 289) (k := 6 * p1 + p2) (lo := 0) (hi := 100000) rfl (by decide)
                  refine e_Ok.ps1 (x := (1, 275)) (q := 90) 1 rfl ?_
                  refine e_Ok.getr (z := 276) rfl (el_o rfl) rfl (ef_o rfl) (e_Has.eq hI.1 rfl) ⟨by decide, by decide⟩ ?_
                  refine e_Ok.ps1 (x := (0, p1)) (q := 94) 1 rfl ?_
                  refine e_Ok.callS rfl (e_dq hd rfl) rfl rfl (c_268 (by omega)) (fun r32 w33 h34 => ?_)
                  obtain ⟨rfl, rfl⟩ := h34
                  refine e_Ok.nrm (q := 97) (st' := [(0, 36 * p1 + 16), (1, 276)]) rfl rfl ?_
                  refine e_Ok.ps1 (x := (0, 16)) (q := 99) 1 rfl ?_
                  refine e_Ok.add (z := 36 * p1 + 32) rfl (e_adl (by decide)) (by omega) ?_
                  refine e_Ok.ps1 (x := (0, p2)) (q := 101) 1 rfl ?_
                  refine e_Ok.add (z := 36 * p1 + p2 + 32) rfl (by omega) (by omega) ?_
                  refine e_Ok.ps1 (x := (0, p3)) (q := 103) 1 rfl ?_
                  refine e_Ok.ast rfl (el_o rfl) rfl rfl (by omega) ?_
                  generalize hw35 : e_up w 276 (36 * p1 + p2 + 32) p3 = w35
                  have f36 : e_fr mTi w w35 := e_fr.up (e_fr.refl w) hw35 (by first | exact Or.inl rfl | (unfold mTi; omega))
                  have hT37 : e_Has mTy w35 := e_Has.upr hI.1 hw35 (nR_VALUE (a := p1) (j := p2) (by omega) (by omega)) (by omega)
                  refine e_Ok.ps2 (x := (0, p3)) (y := (0, w 276 (36 * p1 + p2 + 32))) (q := 107) 2 rfl ?_
                  refine e_Ok.if2 rfl (fun h38 => ?_) (fun h38 => ?_)
                  · replace h38 : (w 276 (36 * p1 + p2 + 32) : Int) = p3 := h38
                    have hI40 : mInv w35 G := mInv.hand hI (by omega) (by omega) (by omega) hcond.2.1 (by omega) hw35 (e_fr.refl w35) hT37 (Or.inr ⟨fun b g1 g2 => rfl, by omega⟩) (fun b g1 g2 => Or.inr rfl)
                    refine e_Ok.run (t' := (121, [(4, (0, w 276 (36 * p1 + p2 + 32))), (0, (1, 275)), (1, (0, p1)), (2, (0, p2)), (3, (0, p3))], [(0, p3), (0, p2), (0, p1), (0, 8), (1, 275)], w35)) 5 rfl ?_
                    refine e_Ok.callV rfl (e_dq hd rfl) rfl rfl rfl rfl (c_423_u (e_dq hd rfl) hT37 (bkE.fr hB (f36 275 5 no_9e_0) (f36 275 6 no_9e_1) (fun k => f36 356 k no_9e_2)).1 (fun e => by have e5 : w35 275 5 = w 275 5 := f36 275 5 no_9e_0; have e6 : w35 275 6 = w 275 6 := f36 275 6 no_9e_1; have h1 := hB.1; have h2 := (show ¬ mBk w by assumption); unfold mBk at h2; omega) (by decide) (fun e => by omega)) (fun r41 w42 h43 => ?_)
                    obtain ⟨rfl, q44⟩ := h43
                    refine e_Ok.nrm (q := 124) (st' := []) rfl rfl ?_
                    refine e_Ok.ps1 (x := (0, w 276 (36 * p1 + p2 + 32))) (q := 126) 1 rfl ?_
                    refine e_Ok.rets rfl rfl ?_
                    have ek0 : w35 276 0 = w 276 0 := (e_uq hw35 (Or.inr (by omega)) rfl)
                    have ek5 : w35 276 5 = w 276 5 := (e_uq hw35 (Or.inr (by omega)) rfl)
                    exact ⟨_, rfl, Or.inr ⟨hcond, by assumption, opS.ev (wm := w35) (opS.of f36 hI40 (fun k => by show w35 276 k = if w 276 (36 * p1 + p2 + 32) = p3 then w35 276 k else _; rw [if_pos (by omega)]) q44) (fun k => by show w35 276 k = if w 276 (36 * p1 + p2 + 32) = p3 then w35 276 k else _; rw [if_pos (by omega)]) (by unfold evG; omega)⟩⟩
                  · replace h38 : (w 276 (36 * p1 + p2 + 32) : Int) ≠ p3 := (show ¬ ((w 276 (36 * p1 + p2 + 32) : Int) = p3) from h38)
                    refine e_Ok.ps2 (x := (0, p1)) (y := (1, 275)) (q := 112) 2 rfl ?_
                    refine e_Ok.callV rfl (e_dq hd rfl) rfl rfl rfl rfl (d_390 (e_dq hd rfl) hT37) (fun r45 w46 h47 => ?_)
                    obtain ⟨⟨rfl, q48, q48T, q48a, q48b⟩, q48x⟩ := h47
                    have f49 : e_fr mTi w w46 := e_fr.trans f36 (e_fr.mono q48 (fun c k q => by exact st_ti q))
                    have q48o := q48 276 0 no_9e_3
                    have q48p := q48 276 5 no_9e_4
                    refine e_Ok.nrm (q := 115) (st' := []) rfl rfl ?_
                    have hI50 : mInv w46 G := mInv.hand hI (by omega) (by omega) (by omega) hcond.2.1 (by omega) hw35 q48 q48T (Or.inl (fun b g1 g2 => q48a b g1 (by have e : w35 275 10 = w 275 10 := (e_uq hw35 (Or.inl (by omega)) rfl); omega))) q48b
                    refine e_Ok.run (t' := (121, [(4, (0, w 276 (36 * p1 + p2 + 32))), (0, (1, 275)), (1, (0, p1)), (2, (0, p2)), (3, (0, p3))], [(0, p3), (0, p2), (0, p1), (0, 8), (1, 275)], w46)) 5 rfl ?_
                    refine e_Ok.callV rfl (e_dq hd rfl) rfl rfl rfl rfl (c_423_u (e_dq hd rfl) q48T (bkE.fr hB (f49 275 5 no_9e_0) (f49 275 6 no_9e_1) (fun k => f49 356 k no_9e_2)).1 (fun e => by have e5 : w46 275 5 = w 275 5 := f49 275 5 no_9e_0; have e6 : w46 275 6 = w 275 6 := f49 275 6 no_9e_1; have h1 := hB.1; have h2 := (show ¬ mBk w by assumption); unfold mBk at h2; omega) (by decide) (fun e => by omega)) (fun r51 w52 h53 => ?_)
                    obtain ⟨rfl, q54⟩ := h53
                    refine e_Ok.nrm (q := 124) (st' := []) rfl rfl ?_
                    refine e_Ok.ps1 (x := (0, w 276 (36 * p1 + p2 + 32))) (q := 126) 1 rfl ?_
                    refine e_Ok.rets rfl rfl ?_
                    have ek0 : w46 276 0 = w 276 0 := ((q48 276 0 no_9e_3).trans (e_uq hw35 (Or.inr (by omega)) rfl))
                    have ek5 : w46 276 5 = w 276 5 := ((q48 276 5 no_9e_4).trans (e_uq hw35 (Or.inr (by omega)) rfl))
                    exact ⟨_, rfl, Or.inr ⟨hcond, by assumption, opS.ev (wm := w46) (opS.of f49 hI50 (fun k => by show w46 276 k = if w 276 (36 * p1 + p2 + 32) = p3 then w35 276 k else _; rw [if_neg (by omega)]; exact q48x k) q54) (fun k => by show w46 276 k = if w 276 (36 * p1 + p2 + 32) = p3 then w35 276 k else _; rw [if_neg (by omega)]; exact q48x k) (by unfold evG; omega)⟩⟩
                · replace h27 : (0 : Int) ≠ 0 := (show ¬ ((0 : Int) = 0) from h27)
                  exfalso; omega
            · replace h20 : (w 276 1 : Int) = 1 := Classical.not_not.mp (show ¬ ((w 276 1 : Int) ≠ 1) from h20)
              refine e_Ok.ps1 (x := (0, (-2))) (q := 62) 1 rfl ?_
              refine e_Ok.rets rfl rfl ?_
              exact ⟨_, rfl, Or.inl ⟨rfl, fun hc => by first | exact hc.2 (by assumption) | (have h1 := hc.1; omega)⟩⟩
        · replace h16 : (1 : Int) = 0 := Classical.not_not.mp (show ¬ ((1 : Int) ≠ 0) from h16)
          exfalso; omega
      · refine e_Ok.nrm (q := 38) (st' := [(0, 0)]) rfl rfl ?_
        refine e_Ok.if1 rfl (fun h55 => ?_) (fun h55 => ?_)
        · replace h55 : (0 : Int) ≠ 0 := h55
          exfalso; omega
        · replace h55 : (0 : Int) = 0 := Classical.not_not.mp (show ¬ ((0 : Int) ≠ 0) from h55)
          refine e_Ok.ps1 (x := (0, (-1))) (q := 42) 1 rfl ?_
          refine e_Ok.rets rfl rfl ?_
          exact ⟨_, rfl, Or.inl ⟨rfl, fun hc => by first | exact hc.2 (by assumption) | (have h1 := hc.1; omega)⟩⟩
  · refine e_Ok.nrm (q := 6) (st' := [(0, 0)]) rfl rfl ?_
    refine e_Ok.if1 rfl (fun h56 => ?_) (fun h56 => ?_)
    · replace h56 : (0 : Int) = 0 := h56
      refine e_Ok.ps1 (x := (0, (-1))) (q := 42) 1 rfl ?_
      refine e_Ok.rets rfl rfl ?_
      exact ⟨_, rfl, Or.inl ⟨rfl, fun hc => by first | exact hc.2 (by assumption) | (have h1 := hc.1; omega)⟩⟩
    · replace h56 : (0 : Int) ≠ 0 := (show ¬ ((0 : Int) = 0) from h56)
      exfalso; omega
theorem no_9e_5 {a : Int} (ha : 0 ≤ a ∧ a ≤ 3) : ¬ mNw a 276 0 := by unfold mNw; omega
theorem no_9e_6 {a : Int} (ha : 0 ≤ a ∧ a ≤ 3) : ¬ mNw a 276 5 := by unfold mNw; omega
set_option maxHeartbeats 4000000 in
theorem c_419 {d : Nat} (hd : 27 ≤ d) {w : eW} {G : Int → Gh} (hI : mInv w G) (hB : bkE w) (hE : w 276 5 ≤ 7000000) {p1 : Int} (g1 : -2147483648 ≤ p1 ∧ p1 ≤ 2147483647) : e_Ok 20 elay ecode eI d 419 (0, [(0, (1, 275)), (1, (0, p1))], [], w) (fun r w' => ∃ z : Int, r = [(0, z)] ∧ ((w = w' ∧ ¬ (((0 ≤ p1 ∧ p1 < w 275 10) ∧ w 275 3 = 1 ∧ 0 ≤ w 276 (36 * p1 + 19) ∧ w 276 (36 * p1 + 20) ≠ 0 ∧ w 276 (36 * p1 + 16) = 0 ∧ w 276 (36 * p1 + 18) < 0 ∧ w 276 1 ≠ 0) ∧ ¬ mBk w)) ∨ (((0 ≤ p1 ∧ p1 < w 275 10) ∧ w 275 3 = 1 ∧ 0 ≤ w 276 (36 * p1 + 19) ∧ w 276 (36 * p1 + 20) ≠ 0 ∧ w 276 (36 * p1 + 16) = 0 ∧ w 276 (36 * p1 + 18) < 0 ∧ w 276 1 ≠ 0) ∧ ¬ mBk w ∧ opS w w' G 11 p1 0 0 (fun k => if 0 < w 276 (36 * p1 + 19) then nowF 391 [(0, (1, 275)), (1, (0, p1))] (e_up (e_up w 276 (36 * p1 + 22) 1) 276 (36 * p1 + 23) 0) k else w 276 k) ∧ evG w w'))) := by
  obtain ⟨d, rfl⟩ : ∃ e, d = e + 1 := ⟨d - 1, by omega⟩
  have hpw := e_Has.get hI.1 (c := 276) (k := 1) (lo := 0) (hi := 1) rfl (by decide)
  have har := e_Has.get hI.1 (c := 275) (k := 10) (lo := 0) (hi := 4) rfl (by decide)
  refine e_Ok.ps2 (x := (0, p1)) (y := (1, 275)) (q := 2) 2 rfl ?_
  refine e_Ok.callV rfl (e_dq hd rfl) rfl rfl rfl rfl (c_270 (e_dq hd rfl) hI.1) (fun r1 w2 h3 => ?_)
  have h4 := e_Has.get hI.1 (c := 275) (k := 10) (lo := 0) (hi := 4) rfl (by decide)
  obtain ⟨z5, rfl, rfl, q6⟩ := h3
  obtain ⟨rfl, q6⟩ | ⟨rfl, q6⟩ := q6
  · refine e_Ok.nrm (q := 5) (st' := [(0, 1)]) rfl rfl ?_
    refine e_Ok.if1 rfl (fun h7 => ?_) (fun h7 => ?_)
    · replace h7 : (1 : Int) ≠ 0 := h7
      refine e_Ok.ps1 (x := (0, p1)) (q := 11) 1 rfl ?_
      refine e_Ok.callS rfl (e_dq hd rfl) rfl rfl (c_268 (by omega)) (fun r8 w9 h10 => ?_)
      obtain ⟨rfl, rfl⟩ := h10
      refine e_Ok.nrm (q := 14) (st' := [(0, 36 * p1 + 16)]) rfl rfl ?_
      refine e_Ok.run (t' := (16, [(2, (0, 36 * p1 + 16)), (0, (1, 275)), (1, (0, p1))], [(1, 275)], w)) 2 rfl ?_
      have h11 := (e_Has.get hI.1 (c := 275) (k := 3) (lo := 0) (hi := 1) rfl (by decide))
      refine e_Ok.getf (z := w 275 3) rfl (el_o rfl) rfl (ef_o rfl) rfl (e_bq h11 (by decide) (by decide)) ?_
      refine e_Ok.if1 rfl (fun h12 => ?_) (fun h12 => ?_)
      · replace h12 : (w 275 3 : Int) = 0 := h12
        refine e_Ok.ps1 (x := (0, (-2))) (q := 77) 1 rfl ?_
        refine e_Ok.rets rfl rfl ?_
        exact ⟨_, rfl, Or.inl ⟨rfl, fun hc => by first | exact hc.2 (by assumption) | (have h1 := hc.1; omega)⟩⟩
      · replace h12 : (w 275 3 : Int) ≠ 0 := (show ¬ ((w 275 3 : Int) = 0) from h12)
        refine e_Ok.ps1 (x := (1, 275)) (q := 23) 1 rfl ?_
        refine e_Ok.getr (z := 276) rfl (el_o rfl) rfl (ef_o rfl) (e_Has.eq hI.1 rfl) ⟨by decide, by decide⟩ ?_
        refine e_Ok.ps2 (x := (0, 3)) (y := (0, 36 * p1 + 16)) (q := 28) 2 rfl ?_
        refine e_Ok.add (z := 36 * p1 + 19) rfl (e_adl (by decide)) (by omega) ?_
        have h13 := (e_Has.get hI.1 (c := 276) (k := 36 * p1 + 19) (lo := (-1)) (hi := 999) (nR_WAY_SIZE (a := p1) (by omega)) (by decide))
        refine e_Ok.ald (z := w 276 (36 * p1 + 19)) rfl (el_o rfl) rfl (by omega) rfl (e_bq h13 (by decide) (by decide)) ?_
        refine e_Ok.if1 rfl (fun h14 => ?_) (fun h14 => ?_)
        · replace h14 : (w 276 (36 * p1 + 19) : Int) < 0 := h14
          refine e_Ok.ps1 (x := (0, (-2))) (q := 77) 1 rfl ?_
          refine e_Ok.rets rfl rfl ?_
          exact ⟨_, rfl, Or.inl ⟨rfl, fun hc => by first | exact hc.2 (by assumption) | (have h1 := hc.1; omega)⟩⟩
        · replace h14 : (w 276 (36 * p1 + 19) : Int) ≥ 0 := Int.not_lt.mp (show ¬ ((w 276 (36 * p1 + 19) : Int) < 0) from h14)
          refine e_Ok.ps1 (x := (1, 275)) (q := 34) 1 rfl ?_
          refine e_Ok.getr (z := 276) rfl (el_o rfl) rfl (ef_o rfl) (e_Has.eq hI.1 rfl) ⟨by decide, by decide⟩ ?_
          refine e_Ok.ps2 (x := (0, 4)) (y := (0, 36 * p1 + 16)) (q := 39) 2 rfl ?_
          refine e_Ok.add (z := 36 * p1 + 20) rfl (e_adl (by decide)) (by omega) ?_
          have h15 := (e_Has.get hI.1 (c := 276) (k := 36 * p1 + 20) (lo := 0) (hi := 1) (nR_FRESH (a := p1) (by omega)) (by decide))
          refine e_Ok.ald (z := w 276 (36 * p1 + 20)) rfl (el_o rfl) rfl (by omega) rfl (e_bq h15 (by decide) (by decide)) ?_
          refine e_Ok.if1 rfl (fun h16 => ?_) (fun h16 => ?_)
          · replace h16 : (w 276 (36 * p1 + 20) : Int) = 0 := h16
            refine e_Ok.ps1 (x := (0, (-2))) (q := 77) 1 rfl ?_
            refine e_Ok.rets rfl rfl ?_
            exact ⟨_, rfl, Or.inl ⟨rfl, fun hc => by first | exact hc.2 (by assumption) | (have h1 := hc.1; omega)⟩⟩
          · replace h16 : (w 276 (36 * p1 + 20) : Int) ≠ 0 := (show ¬ ((w 276 (36 * p1 + 20) : Int) = 0) from h16)
            refine e_Ok.ps1 (x := (1, 275)) (q := 45) 1 rfl ?_
            refine e_Ok.getr (z := 276) rfl (el_o rfl) rfl (ef_o rfl) (e_Has.eq hI.1 rfl) ⟨by decide, by decide⟩ ?_
            refine e_Ok.ps2 (x := (0, 0)) (y := (0, 36 * p1 + 16)) (q := 50) 2 rfl ?_
            refine e_Ok.add (z := 36 * p1 + 16) rfl (e_adl (by decide)) (by omega) ?_
            have h17 := (e_Has.get hI.1 (c := 276) (k := 36 * p1 + 16) (lo := 0) (hi := 2) (nR_STATE (a := p1) (by omega)) (by decide))
            refine e_Ok.ald (z := w 276 (36 * p1 + 16)) rfl (el_o rfl) rfl (by omega) rfl (e_bq h17 (by decide) (by decide)) ?_
            refine e_Ok.if1 rfl (fun h18 => ?_) (fun h18 => ?_)
            · replace h18 : (w 276 (36 * p1 + 16) : Int) ≠ 0 := h18
              refine e_Ok.ps1 (x := (0, (-2))) (q := 77) 1 rfl ?_
              refine e_Ok.rets rfl rfl ?_
              exact ⟨_, rfl, Or.inl ⟨rfl, fun hc => by first | exact hc.2 (by assumption) | (have h1 := hc.1; omega)⟩⟩
            · replace h18 : (w 276 (36 * p1 + 16) : Int) = 0 := Classical.not_not.mp (show ¬ ((w 276 (36 * p1 + 16) : Int) ≠ 0) from h18)
              refine e_Ok.ps1 (x := (1, 275)) (q := 56) 1 rfl ?_
              refine e_Ok.getr (z := 276) rfl (el_o rfl) rfl (ef_o rfl) (e_Has.eq hI.1 rfl) ⟨by decide, by decide⟩ ?_
              refine e_Ok.ps2 (x := (0, 2)) (y := (0, 36 * p1 + 16)) (q := 61) 2 rfl ?_
              refine e_Ok.add (z := 36 * p1 + 18) rfl (e_adl (by decide)) (by omega) ?_
              have h19 := (e_Has.get hI.1 (c := 276) (k := 36 * p1 + 18) (lo := (-1)) (hi := 15) (nR_STUCK (a := p1) (by omega)) (by decide))
              refine e_Ok.ald (z := w 276 (36 * p1 + 18)) rfl (el_o rfl) rfl (by omega) rfl (e_bq h19 (by decide) (by decide)) ?_
              refine e_Ok.if1 rfl (fun h20 => ?_) (fun h20 => ?_)
              · replace h20 : (w 276 (36 * p1 + 18) : Int) ≥ 0 := h20
                refine e_Ok.ps1 (x := (0, (-2))) (q := 77) 1 rfl ?_
                refine e_Ok.rets rfl rfl ?_
                exact ⟨_, rfl, Or.inl ⟨rfl, fun hc => by first | exact hc.2 (by assumption) | (have h1 := hc.1; omega)⟩⟩
              · replace h20 : (w 276 (36 * p1 + 18) : Int) < 0 := Int.not_le.mp (show ¬ ((w 276 (36 * p1 + 18) : Int) ≥ 0) from h20)
                refine e_Ok.ps1 (x := (1, 275)) (q := 67) 1 rfl ?_
                refine e_Ok.getr (z := 276) rfl (el_o rfl) rfl (ef_o rfl) (e_Has.eq hI.1 rfl) ⟨by decide, by decide⟩ ?_
                refine e_Ok.ps1 (x := (0, 1)) (q := 71) 1 rfl ?_
                have h21 := (e_Has.get hI.1 (c := 276) (k := 1) (lo := 0) (hi := 1) rfl (by decide))
                refine e_Ok.ald (z := w 276 1) rfl (el_o rfl) rfl (by omega) rfl (e_bq h21 (by decide) (by decide)) ?_
                refine e_Ok.if1 rfl (fun h22 => ?_) (fun h22 => ?_)
                · replace h22 : (w 276 1 : Int) ≠ 0 := h22
                  have hcond : ((0 ≤ p1 ∧ p1 < w 275 10) ∧ w 275 3 = 1 ∧ 0 ≤ w 276 (36 * p1 + 19) ∧ w 276 (36 * p1 + 20) ≠ 0 ∧ w 276 (36 * p1 + 16) = 0 ∧ w 276 (36 * p1 + 18) < 0 ∧ w 276 1 ≠ 0) := ⟨by omega, by omega, by omega, by omega, by omega, by omega, by omega⟩
                  refine e_Ok.ps1 (x := (1, 275)) (q := 79) 1 rfl ?_
                  refine e_Ok.callV rfl (e_dq hd rfl) rfl rfl rfl rfl (c_422_x hI.1 hB) (fun r23 w24 h25 => ?_)
                  obtain ⟨z26, rfl, rfl, q27⟩ := h25
                  obtain ⟨rfl, q27⟩ | ⟨rfl, q27⟩ := q27
                  · refine e_Ok.nrm (q := 82) (st' := [(0, 1)]) rfl rfl ?_
                    refine e_Ok.if1 rfl (fun h28 => ?_) (fun h28 => ?_)
                    · replace h28 : (1 : Int) = 0 := h28
                      exfalso; omega
                    · replace h28 : (1 : Int) ≠ 0 := (show ¬ ((1 : Int) = 0) from h28)
                      refine e_Ok.ps1 (x := (0, (-3))) (q := 87) 1 rfl ?_
                      refine e_Ok.rets rfl rfl ?_
                      exact ⟨_, rfl, Or.inl ⟨rfl, fun hc => by first | exact hc.2 (by assumption) | (have h1 := hc.1; omega)⟩⟩
                  · refine e_Ok.nrm (q := 82) (st' := [(0, 0)]) rfl rfl ?_
                    refine e_Ok.if1 rfl (fun h29 => ?_) (fun h29 => ?_)
                    · replace h29 : (0 : Int) = 0 := h29
                      refine e_Ok.run (t' := (93, [(4, (0, 0)), (3, (0, 0)), (2, (0, 36 * p1 + 16)), (0, (1, 275)), (1, (0, p1))], [], w)) 4 rfl ?_
                      have hL30 : ∀ (nn : Nat) (y3 : Int) (y4 : Int), (0 ≤ y4 ∧ y4 ≤ w 276 (36 * p1 + 19)) ∧ (0 ≤ y3 ∧ y3 ≤ y4 ∧ (1 ≤ y4 → 1 ≤ y3)) → 1000 - y4 < nn → e_Ok 20 elay ecode eI (d + 1) 419 (93, [(0, (1, 275)), (1, (0, p1)), (2, (0, 36 * p1 + 16)), (3, (0, y3)), (4, (0, y4))], [], w) (fun r w' => ∃ z : Int, r = [(0, z)] ∧ ((w = w' ∧ ¬ (((0 ≤ p1 ∧ p1 < w 275 10) ∧ w 275 3 = 1 ∧ 0 ≤ w 276 (36 * p1 + 19) ∧ w 276 (36 * p1 + 20) ≠ 0 ∧ w 276 (36 * p1 + 16) = 0 ∧ w 276 (36 * p1 + 18) < 0 ∧ w 276 1 ≠ 0) ∧ ¬ mBk w)) ∨ (((0 ≤ p1 ∧ p1 < w 275 10) ∧ w 275 3 = 1 ∧ 0 ≤ w 276 (36 * p1 + 19) ∧ w 276 (36 * p1 + 20) ≠ 0 ∧ w 276 (36 * p1 + 16) = 0 ∧ w 276 (36 * p1 + 18) < 0 ∧ w 276 1 ≠ 0) ∧ ¬ mBk w ∧ opS w w' G 11 p1 0 0 (fun k => if 0 < w 276 (36 * p1 + 19) then nowF 391 [(0, (1, 275)), (1, (0, p1))] (e_up (e_up w 276 (36 * p1 + 22) 1) 276 (36 * p1 + 23) 0) k else w 276 k) ∧ evG w w'))) := by
                        intro nn
                        induction nn with
                        | zero => intro y3 y4 hj hm; obtain ⟨j32, j33⟩ := hj; exfalso; omega
                        | succ nn ih31 =>
                          intro y3 y4 hj hm
                          obtain ⟨j32, j33⟩ := hj
                          refine e_Ok.run (t' := (96, [(0, (1, 275)), (1, (0, p1)), (2, (0, 36 * p1 + 16)), (3, (0, y3)), (4, (0, y4))], [(1, 275), (0, y4)], w)) 2 rfl ?_
                          refine e_Ok.getr (z := 276) rfl (el_o rfl) rfl (ef_o rfl) (e_Has.eq hI.1 rfl) ⟨by decide, by decide⟩ ?_
                          refine e_Ok.ps2 (x := (0, 3)) (y := (0, 36 * p1 + 16)) (q := 101) 2 rfl ?_
                          refine e_Ok.add (z := 36 * p1 + 19) rfl (e_adl (by decide)) (by omega) ?_
                          refine e_Ok.ald (z := w 276 (36 * p1 + 19)) rfl (el_o rfl) rfl (by omega) rfl (by omega) ?_
                          refine e_Ok.if2 rfl (fun h34 => ?_) (fun h34 => ?_)
                          · replace h34 : (y4 : Int) ≥ w 276 (36 * p1 + 19) := h34
                            refine e_Ok.ps1 (x := (0, y3)) (q := 165) 1 rfl ?_
                            refine e_Ok.if1 rfl (fun h35 => ?_) (fun h35 => ?_)
                            · replace h35 : (y3 : Int) ≤ 0 := h35
                              refine e_Ok.run (t' := (199, [(0, (1, 275)), (1, (0, p1)), (2, (0, 36 * p1 + 16)), (3, (0, y3)), (4, (0, y4))], [(0, 0), (0, 0), (0, p1), (0, 11), (1, 275)], w)) 5 rfl ?_
                              refine e_Ok.callV rfl (e_dq hd rfl) rfl rfl rfl rfl (c_423_u (e_dq hd rfl) hI.1 hB (fun e => by have e5 : w 275 5 = w 275 5 := rfl; have e6 : w 275 6 = w 275 6 := rfl; have h1 := hB.1; have h2 := (show ¬ mBk w by assumption); unfold mBk at h2; omega) (by decide) (fun e => by omega)) (fun r36 w37 h38 => ?_)
                              obtain ⟨rfl, q40⟩ := h38
                              refine e_Ok.nrm (q := 202) (st' := []) rfl rfl ?_
                              refine e_Ok.ps1 (x := (0, y3)) (q := 203) 1 rfl ?_
                              refine e_Ok.rets rfl rfl ?_
                              exact ⟨_, rfl, Or.inr ⟨hcond, by assumption, opS.ev (wm := w) (opS.of (e_fr.refl w) hI (fun k => by show w 276 k = if 0 < w 276 (36 * p1 + 19) then _ else w 276 k; rw [if_neg (by omega)]) q40) (fun k => by show w 276 k = if 0 < w 276 (36 * p1 + 19) then _ else w 276 k; rw [if_neg (by omega)]) (by unfold evG; omega)⟩⟩
                            · replace h35 : (y3 : Int) > 0 := Int.not_le.mp (show ¬ ((y3 : Int) ≤ 0) from h35)
                              refine e_Ok.ps1 (x := (1, 275)) (q := 169) 1 rfl ?_
                              refine e_Ok.getr (z := 276) rfl (el_o rfl) rfl (ef_o rfl) (e_Has.eq hI.1 rfl) ⟨by decide, by decide⟩ ?_
                              refine e_Ok.ps2 (x := (0, 6)) (y := (0, 36 * p1 + 16)) (q := 175) 2 rfl ?_
                              refine e_Ok.add (z := 36 * p1 + 22) rfl (e_adl (by decide)) (by omega) ?_
                              refine e_Ok.ps1 (x := (0, 1)) (q := 177) 1 rfl ?_
                              refine e_Ok.ast rfl (el_o rfl) rfl rfl (by omega) ?_
                              generalize hw41 : e_up w 276 (36 * p1 + 22) 1 = w41
                              have hT43 : e_Has mTy w41 := e_Has.upr hI.1 hw41 (nR_TRAVELS (a := p1) (by omega)) (by omega)
                              refine e_Ok.ps1 (x := (1, 275)) (q := 179) 1 rfl ?_
                              refine e_Ok.getr (z := 276) rfl (el_o rfl) rfl (ef_o rfl) (e_uq hw41 (Or.inl (by decide)) (e_Has.eq hI.1 rfl)) ⟨by decide, by decide⟩ ?_
                              refine e_Ok.ps2 (x := (0, 7)) (y := (0, 36 * p1 + 16)) (q := 185) 2 rfl ?_
                              refine e_Ok.add (z := 36 * p1 + 23) rfl (e_adl (by decide)) (by omega) ?_
                              refine e_Ok.ps1 (x := (0, 0)) (q := 187) 1 rfl ?_
                              refine e_Ok.ast rfl (el_o rfl) rfl rfl (by omega) ?_
                              generalize hw44 : e_up w41 276 (36 * p1 + 23) 0 = w44
                              have hT46 : e_Has mTy w44 := e_Has.upr hT43 hw44 (nR_TRAVEL_AT (a := p1) (by omega)) (by omega)
                              refine e_Ok.ps2 (x := (0, p1)) (y := (1, 275)) (q := 190) 2 rfl ?_
                              have hX : ∀ c k, ¬ (c = 276 ∧ (k = 36 * p1 + 22 ∨ k = 36 * p1 + 23)) → w44 c k = w c k := fun c k q => by rw [← hw44, ← hw41]; exact (e_up_ne _ _ (by omega)).trans (e_up_ne _ _ (by omega))
                              have hmt : mMo w44 p1 := mMo.take hI.2.2.2.2.2.1 (e_Has.mo hI.1) (by omega) (by omega) (fun c k q q2 => hX c k q2) (e_ue hw44)
                              refine e_Ok.callV rfl (e_dq hd rfl) rfl rfl rfl rfl (d_391 (e_dq hd rfl) hT46 (mCf.fr hI.2.2.1 (fun c k q => hX c k (by omega))) (by omega) hmt (Eq.trans (hX 276 _ (by omega)) (by omega)) (Eq.trans (hX 276 1 (by omega)) (by omega))) (fun r47 w48 h49 => ?_)
                              obtain ⟨⟨rfl, q50, q50T, q50m⟩, q50x⟩ := h49
                              have f51 : e_fr mTi w w48 := e_fr.trans (show e_fr mTi w w44 from e_fr.up (show e_fr mTi w w41 from e_fr.up (e_fr.refl w) hw41 (by first | exact Or.inl rfl | (unfold mTi; omega))) hw44 (by first | exact Or.inl rfl | (unfold mTi; omega))) (e_fr.mono q50 (fun c k q => by exact nw_ti q))
                              have q50F : e_fr (mNw p1) w w48 := fun c k h => (q50 c k h).trans (hX c k (fun h1 => h (by unfold mNw; omega)))
                              have hI52 : mInv w48 G := mInv.way hI (by omega) q50F q50T q50m
                              have q50o := q50F 276 0 (by first | exact no_9e_5 (by omega) | (unfold mNw; omega))
                              have q50p := q50F 276 5 (by first | exact no_9e_6 (by omega) | (unfold mNw; omega))
                              refine e_Ok.nrm (q := 193) (st' := []) rfl rfl ?_
                              refine e_Ok.run (t' := (199, [(0, (1, 275)), (1, (0, p1)), (2, (0, 36 * p1 + 16)), (3, (0, y3)), (4, (0, y4))], [(0, 0), (0, 0), (0, p1), (0, 11), (1, 275)], w48)) 5 rfl ?_
                              refine e_Ok.callV rfl (e_dq hd rfl) rfl rfl rfl rfl (c_423_u (e_dq hd rfl) q50T (bkE.fr hB (f51 275 5 no_9e_0) (f51 275 6 no_9e_1) (fun k => f51 356 k no_9e_2)).1 (fun e => by have e5 : w48 275 5 = w 275 5 := f51 275 5 no_9e_0; have e6 : w48 275 6 = w 275 6 := f51 275 6 no_9e_1; have h1 := hB.1; have h2 := (show ¬ mBk w by assumption); unfold mBk at h2; omega) (by decide) (fun e => by omega)) (fun r53 w54 h55 => ?_)
                              obtain ⟨rfl, q56⟩ := h55
                              refine e_Ok.nrm (q := 202) (st' := []) rfl rfl ?_
                              refine e_Ok.ps1 (x := (0, y3)) (q := 203) 1 rfl ?_
                              refine e_Ok.rets rfl rfl ?_
                              have ek0 : w48 276 0 = w 276 0 := ((q50 276 0 (by first | exact no_9e_5 (by omega) | (unfold mNw; omega))).trans (e_uq hw44 (Or.inr (by omega)) (e_uq hw41 (Or.inr (by omega)) rfl)))
                              have ek5 : w48 276 5 = w 276 5 := ((q50 276 5 (by first | exact no_9e_6 (by omega) | (unfold mNw; omega))).trans (e_uq hw44 (Or.inr (by omega)) (e_uq hw41 (Or.inr (by omega)) rfl)))
                              exact ⟨_, rfl, Or.inr ⟨hcond, by assumption, opS.ev (wm := w48) (opS.of f51 hI52 (fun k => by show w48 276 k = if 0 < w 276 (36 * p1 + 19) then _ else w 276 k; rw [if_pos (by omega)]; exact q50x k) q56) (fun k => by show w48 276 k = if 0 < w 276 (36 * p1 + 19) then _ else w 276 k; rw [if_pos (by omega)]; exact q50x k) (by unfold evG; omega)⟩⟩
                          · replace h34 : (y4 : Int) < w 276 (36 * p1 + 19) := Int.not_le.mp (show ¬ ((y4 : Int) ≥ w 276 (36 * p1 + 19)) from h34)
                            refine e_Ok.ps2 (x := (0, y4)) (y := (0, y3)) (q := 109) 2 rfl ?_
                            refine e_Ok.if1 rfl (fun h57 => ?_) (fun h57 => ?_)
                            · replace h57 : (y4 : Int) = 0 := h57
                              refine e_Ok.ps1 (x := (0, 1)) (q := 156) 2 rfl ?_
                              refine e_Ok.add (z := y3 + 1) rfl rfl (by omega) ?_
                              refine e_Ok.run (t' := (158, [(3, (0, y3 + 1)), (0, (1, 275)), (1, (0, p1)), (2, (0, 36 * p1 + 16)), (4, (0, y4))], [], w)) 1 rfl ?_
                              refine e_Ok.inc (z := y4 + 1) rfl rfl (by first | with_reducible rfl | omega) (by omega) ?_
                              show e_Ok 20 elay ecode eI (d + 1) 419 (161, [(4, (0, y4 + 1)), (3, (0, y3 + 1)), (0, (1, 275)), (1, (0, p1)), (2, (0, 36 * p1 + 16))], [], w) _
                              refine e_Ok.ps0 (q := 93) 1 rfl ?_
                              refine e_Ok.sub eAlk (e_sub_of rfl ?_) (ih31 (y3 + 1) (y4 + 1) ⟨by omega, by omega⟩ (by omega))
                              exact ⟨rfl, rfl, rfl, rfl, rfl, trivial⟩
                            · replace h57 : (y4 : Int) ≠ 0 := (show ¬ ((y4 : Int) = 0) from h57)
                              refine e_Ok.ps1 (x := (1, 275)) (q := 113) 1 rfl ?_
                              refine e_Ok.getr (z := 276) rfl (el_o rfl) rfl (ef_o rfl) (e_Has.eq hI.1 rfl) ⟨by decide, by decide⟩ ?_
                              refine e_Ok.ps3 (x := (0, p1)) (y := (0, 1000)) (z := (0, 21060)) (q := 123) 3 rfl ?_
                              refine e_Ok.mul (z := 1000 * p1) rfl rfl (by omega) ?_
                              refine e_Ok.add (z := 1000 * p1 + 21060) rfl (Int.add_comm _ _) (by omega) ?_
                              refine e_Ok.ps1 (x := (0, y4)) (q := 127) 1 rfl ?_
                              refine e_Ok.add (z := 1000 * p1 + y4 + 21060) rfl (by omega) (by omega) ?_
                              have h58 := (e_Has.get hI.1 (c := 276) (k := 1000 * p1 + y4 + 21060) (lo := 0) (hi := 11) (nR_WAY (by omega)) (by decide))
                              refine e_Ok.ald (z := w 276 (1000 * p1 + y4 + 21060)) rfl (el_o rfl) rfl (by omega) rfl (e_bq h58 (by decide) (by decide)) ?_
                              refine e_Ok.ps1 (x := (1, 275)) (q := 130) 1 rfl ?_
                              refine e_Ok.getr (z := 276) rfl (el_o rfl) rfl (ef_o rfl) (e_Has.eq hI.1 rfl) ⟨by decide, by decide⟩ ?_
                              refine e_Ok.ps3 (x := (0, p1)) (y := (0, 1000)) (z := (0, 21060)) (q := 140) 3 rfl ?_
                              refine e_Ok.mul (z := 1000 * p1) rfl rfl (by omega) ?_
                              refine e_Ok.add (z := 1000 * p1 + 21060) rfl (Int.add_comm _ _) (by omega) ?_
                              refine e_Ok.ps1 (x := (0, y4)) (q := 144) 1 rfl ?_
                              refine e_Ok.add (z := 1000 * p1 + y4 + 21060) rfl (by omega) (by omega) ?_
                              refine e_Ok.ps1 (x := (0, 1)) (q := 146) 1 rfl ?_
                              refine e_Ok.sub' (z := 1000 * p1 + y4 + 21059) rfl (by omega) (by omega) ?_
                              have h59 := (e_Has.get hI.1 (c := 276) (k := 1000 * p1 + y4 + 21059) (lo := 0) (hi := 11) (nR_WAY (by omega)) (by decide))
                              refine e_Ok.ald (z := w 276 (1000 * p1 + y4 + 21059)) rfl (el_o rfl) rfl (by omega) rfl (e_bq h59 (by decide) (by decide)) ?_
                              refine e_Ok.if2 rfl (fun h60 => ?_) (fun h60 => ?_)
                              · replace h60 : (w 276 (1000 * p1 + y4 + 21060) : Int) = w 276 (1000 * p1 + y4 + 21059) := h60
                                refine e_Ok.ps1 (x := (0, 0)) (q := 156) 1 rfl ?_
                                refine e_Ok.add (z := y3) rfl (by omega) (by omega) ?_
                                refine e_Ok.run (t' := (158, [(3, (0, y3)), (0, (1, 275)), (1, (0, p1)), (2, (0, 36 * p1 + 16)), (4, (0, y4))], [], w)) 1 rfl ?_
                                refine e_Ok.inc (z := y4 + 1) rfl rfl (by first | with_reducible rfl | omega) (by omega) ?_
                                show e_Ok 20 elay ecode eI (d + 1) 419 (161, [(4, (0, y4 + 1)), (3, (0, y3)), (0, (1, 275)), (1, (0, p1)), (2, (0, 36 * p1 + 16))], [], w) _
                                refine e_Ok.ps0 (q := 93) 1 rfl ?_
                                refine e_Ok.sub eAlk (e_sub_of rfl ?_) (ih31 y3 (y4 + 1) ⟨by omega, by omega⟩ (by omega))
                                exact ⟨rfl, rfl, rfl, rfl, rfl, trivial⟩
                              · replace h60 : (w 276 (1000 * p1 + y4 + 21060) : Int) ≠ w 276 (1000 * p1 + y4 + 21059) := (show ¬ ((w 276 (1000 * p1 + y4 + 21060) : Int) = w 276 (1000 * p1 + y4 + 21059)) from h60)
                                refine e_Ok.ps1 (x := (0, 1)) (q := 156) 2 rfl ?_
                                refine e_Ok.add (z := y3 + 1) rfl rfl (by omega) ?_
                                refine e_Ok.run (t' := (158, [(3, (0, y3 + 1)), (0, (1, 275)), (1, (0, p1)), (2, (0, 36 * p1 + 16)), (4, (0, y4))], [], w)) 1 rfl ?_
                                refine e_Ok.inc (z := y4 + 1) rfl rfl (by first | with_reducible rfl | omega) (by omega) ?_
                                show e_Ok 20 elay ecode eI (d + 1) 419 (161, [(4, (0, y4 + 1)), (3, (0, y3 + 1)), (0, (1, 275)), (1, (0, p1)), (2, (0, 36 * p1 + 16))], [], w) _
                                refine e_Ok.ps0 (q := 93) 1 rfl ?_
                                refine e_Ok.sub eAlk (e_sub_of rfl ?_) (ih31 (y3 + 1) (y4 + 1) ⟨by omega, by omega⟩ (by omega))
                                exact ⟨rfl, rfl, rfl, rfl, rfl, trivial⟩
                      refine e_Ok.sub eAlk (e_sub_of rfl ?_) (hL30 (1000 + 1 : Int).toNat 0 0 ⟨by omega, by omega⟩ (by omega))
                      exact ⟨rfl, rfl, rfl, rfl, rfl, trivial⟩
                    · replace h29 : (0 : Int) ≠ 0 := (show ¬ ((0 : Int) = 0) from h29)
                      exfalso; omega
                · replace h22 : (w 276 1 : Int) = 0 := Classical.not_not.mp (show ¬ ((w 276 1 : Int) ≠ 0) from h22)
                  refine e_Ok.ps1 (x := (0, (-2))) (q := 77) 1 rfl ?_
                  refine e_Ok.rets rfl rfl ?_
                  exact ⟨_, rfl, Or.inl ⟨rfl, fun hc => by first | exact hc.2 (by assumption) | (have h1 := hc.1; omega)⟩⟩
    · replace h7 : (1 : Int) = 0 := Classical.not_not.mp (show ¬ ((1 : Int) ≠ 0) from h7)
      exfalso; omega
  · refine e_Ok.nrm (q := 5) (st' := [(0, 0)]) rfl rfl ?_
    refine e_Ok.if1 rfl (fun h61 => ?_) (fun h61 => ?_)
    · replace h61 : (0 : Int) ≠ 0 := h61
      exfalso; omega
    · replace h61 : (0 : Int) = 0 := Classical.not_not.mp (show ¬ ((0 : Int) ≠ 0) from h61)
      refine e_Ok.ps1 (x := (0, (-1))) (q := 9) 1 rfl ?_
      refine e_Ok.rets rfl rfl ?_
      exact ⟨_, rfl, Or.inl ⟨rfl, fun hc => by first | exact hc.2 (by assumption) | (have h1 := hc.1; omega)⟩⟩
end
end
-- part 9f
section
noncomputable section
/-! reset: the inputs' faults go, power comes -/
def rsI (w : eW) (y k : Int) : Int := if 20836 ≤ k ∧ k < 20836 + 4 * y ∧ (k - 20836) % 4 = 3 then 0 else w 276 k
def rsW (w : eW) (y k : Int) : Int := if k = 1 then 1 else rsI w y k
theorem rsI_step {w v v' : eW} {y : Int} (hy : 0 ≤ y) (h : ∀ k, v 276 k = rsI w y k) (hw : e_up v 276 (4 * y + 20839) 0 = v') (k : Int) : v' 276 k = rsI w (y + 1) k := by
  rw [← hw]
  by_cases e : k = 4 * y + 20839
  · rw [e, e_up_eq]
    unfold rsI
    rw [if_pos (by omega)]
  · rw [e_up_ne _ _ (Or.inr e), h k]
    unfold rsI
    by_cases e2 : 20836 ≤ k ∧ k < 20836 + 4 * y ∧ (k - 20836) % 4 = 3
    · rw [if_pos e2, if_pos (by omega)]
    · rw [if_neg e2, if_neg (by omega)]
theorem rsW_of {w v v' : eW} {y : Int} (h : ∀ k, v 276 k = rsI w y k) (hw : e_up v 276 1 1 = v') (k : Int) : v' 276 k = rsW w y k := by
  rw [← hw]
  unfold rsW
  by_cases e : k = 1
  · rw [e, e_up_eq, if_pos rfl]
  · rw [e_up_ne _ _ (Or.inr e), if_neg e, h k]
theorem rsI_0 (w : eW) (k : Int) : w 276 k = rsI w 0 k := by
  unfold rsI
  rw [if_neg (by omega)]
def mRs (c k : Int) : Prop := c = 276 ∧ (k = 1 ∨ (20836 ≤ k ∧ k < 20868))
theorem su_9f_0 {c k : Int} (q : mRs c k) : cfN c k := by
  unfold mRs at q
  rcases q with ⟨q, (q | ⟨q, q⟩)⟩
  · exact ⟨(by omega), ⟨(by omega), ⟨(by omega), ⟨(by omega), ⟨(by omega), ⟨(by omega), (by omega)⟩⟩⟩⟩⟩⟩
  · exact ⟨(by omega), ⟨(by omega), ⟨(by omega), ⟨(by omega), ⟨(by omega), ⟨(by omega), (by omega)⟩⟩⟩⟩⟩⟩
theorem mInv.power {w w' : eW} {G : Int → Gh} (h : mInv w G) (hF : e_fr mRs w w') (hT : e_Has mTy w') (hP : w' 276 1 ≠ 0) : mInv w' G := by
  have h0 := h
  obtain ⟨t1, -, -, -, -, h6, h7, h8, h9⟩ := h0
  have hp := e_Has.get t1 (c := 275) (k := 40) (lo := 0) (hi := 32) rfl (by decide)
  exact h.next hF hT (fun c k q => su_9f_0 q) (mMo.power h6 (e_Has.mo t1) (fun c k q q2 => hF c k (fun q1 => by unfold mRs at q1; unfold moK at q; omega)) hP) (mOr.fr h7 hp.2 (e_Has.orn t1) (e_Has.orw t1 hp.2) (fun k q => hF _ _ (fun q1 => by unfold mRs at q1; unfold orK at q; omega))) (fun v v1 v2 => tkOk.hop h8 (h9 v v1 v2) hF (fun c k q => by unfold mRs at q; exact ⟨by omega, fun _ => ⟨by omega, fun q2 => by unfold tkK at q2; omega⟩⟩))
theorem d_319 {d : Nat} {w : eW} (hT : e_Has mTy w) {a b c : Int} (hE : w 276 5 ≤ 2147483646) (ha : -2147483648 ≤ a ∧ a ≤ 2147483647) (hb : -2147483648 ≤ b ∧ b ≤ 2147483647) (hc : -2147483648 ≤ c ∧ c ≤ 2147483647) : e_Ok 20 elay ecode eI d 319 (0, [(0, (1, 275)), (1, (0, a)), (2, (0, b)), (3, (0, c))], [], w) (fun r w' => (r = [] ∧ e_fr mE w w' ∧ e_Has mTy w' ∧ w' 276 5 = w 276 5 + 1) ∧ ∀ k, w' 276 k = nowF 319 [(0, (1, 275)), (1, (0, a)), (2, (0, b)), (3, (0, c))] w k) :=
  (e_Ok.detN (l := [(0, (1, 275)), (1, (0, a)), (2, (0, b)), (3, (0, c))]) (show ([0, 1, 2, 3] : List Nat).Nodup by decide) (fun u hu => c_319 (hT.low hu) (by rw [hu 276 5 (K0_now 5)]; exact hE) ha hb hc) (fun u r v hu q => q.2.2.1)).imp (fun r v h => ⟨h.1, h.2.1⟩)
theorem e_idl {c k : Int} (q : mE c k) : idl c k := by unfold mE at q; unfold idl; omega
theorem e_ti {c k : Int} (q : mE c k) : mTi c k := by unfold mE at q; unfold mTi; omega
end
end
-- part 9g
section
noncomputable section
theorem no_9g_0 {k : Int} : ¬ mRs 275 k := by unfold mRs; omega
theorem no_9g_1 : ¬ mRs 276 5 := by unfold mRs; omega
theorem no_9g_2 : ¬ mRs 276 0 := by unfold mRs; omega
theorem no_9g_3 : ¬ mE 276 0 := by unfold mE; omega
theorem no_9g_4 : ¬ mTi 275 5 := by unfold mTi; omega
theorem no_9g_5 : ¬ mTi 275 6 := by unfold mTi; omega
theorem no_9g_6 {k : Int} : ¬ mTi 356 k := by unfold mTi; omega
set_option maxHeartbeats 4000000 in
theorem c_430 {d : Nat} (hd : 27 ≤ d) {w : eW} {G : Int → Gh} (hI : mInv w G) (hB : bkE w) (hE : w 276 5 ≤ 7000000) {p1 : Int} (g1 : -2147483648 ≤ p1 ∧ p1 ≤ 2147483647) : e_Ok 20 elay ecode eI d 430 (0, [(0, (1, 275)), (1, (0, p1))], [], w) (fun r w' => ∃ z : Int, r = [(0, z)] ∧ ((w = w' ∧ ¬ ((((0 ≤ p1 ∧ p1 ≤ 7) ∧ w 275 3 = 1 ∧ w 317 p1 ≠ 0 ∧ w 276 1 ≠ 1) ∧ (∀ i, 0 ≤ i → i < w 275 49 → w 276 (4 * i + 20836) ≠ 0 ∧ w 276 (4 * i + 20837) ≠ 0)) ∧ ¬ mBk w)) ∨ ((((0 ≤ p1 ∧ p1 ≤ 7) ∧ w 275 3 = 1 ∧ w 317 p1 ≠ 0 ∧ w 276 1 ≠ 1) ∧ (∀ i, 0 ≤ i → i < w 275 49 → w 276 (4 * i + 20836) ≠ 0 ∧ w 276 (4 * i + 20837) ≠ 0)) ∧ ¬ mBk w ∧ opS w w' G 5 p1 0 0 (nowF 319 [(0, (1, 275)), (1, (0, 3)), (2, (0, p1)), (3, (0, 0))] (wn w (fun k => rsW w (w 275 49) k))) ∧ evG w w'))) := by
  obtain ⟨d, rfl⟩ : ∃ e, d = e + 1 := ⟨d - 1, by omega⟩
  have hin := e_Has.get hI.1 (c := 275) (k := 49) (lo := 0) (hi := 8) rfl (by decide)
  have hpw := e_Has.get hI.1 (c := 276) (k := 1) (lo := 0) (hi := 1) rfl (by decide)
  refine e_Ok.ps3 (x := (4, 7)) (y := (4, 0)) (z := (4, p1)) (q := 6) 4 rfl ?_
  refine e_Ok.callS rfl (e_dq hd rfl) rfl rfl (c_266) (fun r1 w2 h3 => ?_)
  obtain ⟨z4, rfl, rfl, q5⟩ := h3
  obtain ⟨rfl, q5⟩ | ⟨rfl, q5⟩ := q5
  · refine e_Ok.nrm (q := 9) (st' := [(0, 1)]) rfl rfl ?_
    refine e_Ok.if1 rfl (fun h6 => ?_) (fun h6 => ?_)
    · replace h6 : (1 : Int) ≠ 0 := h6
      refine e_Ok.ps1 (x := (1, 275)) (q := 15) 1 rfl ?_
      have h7 := (e_Has.get hI.1 (c := 275) (k := 3) (lo := 0) (hi := 1) rfl (by decide))
      refine e_Ok.getf (z := w 275 3) rfl (el_o rfl) rfl (ef_o rfl) rfl (e_bq h7 (by decide) (by decide)) ?_
      refine e_Ok.if1 rfl (fun h8 => ?_) (fun h8 => ?_)
      · replace h8 : (w 275 3 : Int) = 0 := h8
        refine e_Ok.ps1 (x := (0, (-2))) (q := 42) 1 rfl ?_
        refine e_Ok.rets rfl rfl ?_
        exact ⟨_, rfl, Or.inl ⟨rfl, fun hc => by first | exact hc.2 (by assumption) | (have h1 := hc.1.1; omega) | (have h1 := hc.1.2 y2 (by omega) (by omega); omega)⟩⟩
      · replace h8 : (w 275 3 : Int) ≠ 0 := (show ¬ ((w 275 3 : Int) = 0) from h8)
        refine e_Ok.ps1 (x := (1, 275)) (q := 22) 1 rfl ?_
        refine e_Ok.getr (z := 317) rfl (el_o rfl) rfl (ef_o rfl) (e_Has.eq hI.1 rfl) ⟨by decide, by decide⟩ ?_
        refine e_Ok.ps1 (x := (0, p1)) (q := 26) 1 rfl ?_
        have h9 := (e_Has.get hI.1 (c := 317) (k := p1) (lo := 0) (hi := 1) rfl (by decide))
        refine e_Ok.ald (z := w 317 p1) rfl (el_o rfl) rfl (by omega) rfl (e_bq h9 (by decide) (by decide)) ?_
        refine e_Ok.if1 rfl (fun h10 => ?_) (fun h10 => ?_)
        · replace h10 : (w 317 p1 : Int) = 0 := h10
          refine e_Ok.ps1 (x := (0, (-2))) (q := 42) 1 rfl ?_
          refine e_Ok.rets rfl rfl ?_
          exact ⟨_, rfl, Or.inl ⟨rfl, fun hc => by first | exact hc.2 (by assumption) | (have h1 := hc.1.1; omega) | (have h1 := hc.1.2 y2 (by omega) (by omega); omega)⟩⟩
        · replace h10 : (w 317 p1 : Int) ≠ 0 := (show ¬ ((w 317 p1 : Int) = 0) from h10)
          refine e_Ok.ps1 (x := (1, 275)) (q := 31) 1 rfl ?_
          refine e_Ok.getr (z := 276) rfl (el_o rfl) rfl (ef_o rfl) (e_Has.eq hI.1 rfl) ⟨by decide, by decide⟩ ?_
          refine e_Ok.ps1 (x := (0, 1)) (q := 35) 1 rfl ?_
          have h11 := (e_Has.get hI.1 (c := 276) (k := 1) (lo := 0) (hi := 1) rfl (by decide))
          refine e_Ok.ald (z := w 276 1) rfl (el_o rfl) rfl (by omega) rfl (e_bq h11 (by decide) (by decide)) ?_
          refine e_Ok.ps1 (x := (0, 1)) (q := 37) 1 rfl ?_
          refine e_Ok.if2 rfl (fun h12 => ?_) (fun h12 => ?_)
          · replace h12 : (w 276 1 : Int) ≠ 1 := h12
            have hcond : ((0 ≤ p1 ∧ p1 ≤ 7) ∧ w 275 3 = 1 ∧ w 317 p1 ≠ 0 ∧ w 276 1 ≠ 1) := ⟨by omega, by omega, by omega, by omega⟩
            refine e_Ok.run (t' := (45, [(2, (0, 0)), (0, (1, 275)), (1, (0, p1))], [], w)) 2 rfl ?_
            have hL13 : ∀ (nn : Nat) (y2 : Int), (0 ≤ y2 ∧ y2 ≤ 8) ∧ (∀ i, 0 ≤ i → i < y2 → w 276 (4 * i + 20836) ≠ 0 ∧ w 276 (4 * i + 20837) ≠ 0) → 9 - y2 < nn → e_Ok 20 elay ecode eI (d + 1) 430 (45, [(0, (1, 275)), (1, (0, p1)), (2, (0, y2))], [], w) (fun r w' => ∃ z : Int, r = [(0, z)] ∧ ((w = w' ∧ ¬ ((((0 ≤ p1 ∧ p1 ≤ 7) ∧ w 275 3 = 1 ∧ w 317 p1 ≠ 0 ∧ w 276 1 ≠ 1) ∧ (∀ i, 0 ≤ i → i < w 275 49 → w 276 (4 * i + 20836) ≠ 0 ∧ w 276 (4 * i + 20837) ≠ 0)) ∧ ¬ mBk w)) ∨ ((((0 ≤ p1 ∧ p1 ≤ 7) ∧ w 275 3 = 1 ∧ w 317 p1 ≠ 0 ∧ w 276 1 ≠ 1) ∧ (∀ i, 0 ≤ i → i < w 275 49 → w 276 (4 * i + 20836) ≠ 0 ∧ w 276 (4 * i + 20837) ≠ 0)) ∧ ¬ mBk w ∧ opS w w' G 5 p1 0 0 (nowF 319 [(0, (1, 275)), (1, (0, 3)), (2, (0, p1)), (3, (0, 0))] (wn w (fun k => rsW w (w 275 49) k))) ∧ evG w w'))) := by
              intro nn
              induction nn with
              | zero => intro y2 hj hm; obtain ⟨j15, j16⟩ := hj; exfalso; omega
              | succ nn ih14 =>
                intro y2 hj hm
                obtain ⟨j15, j16⟩ := hj
                refine e_Ok.run (t' := (47, [(0, (1, 275)), (1, (0, p1)), (2, (0, y2))], [(1, 275), (0, y2)], w)) 2 rfl ?_
                have h17 := (e_Has.get hI.1 (c := 275) (k := 49) (lo := 0) (hi := 8) rfl (by decide))
                refine e_Ok.getf (z := w 275 49) rfl (el_o rfl) rfl (ef_o rfl) rfl (e_bq h17 (by decide) (by decide)) ?_
                refine e_Ok.if2 rfl (fun h18 => ?_) (fun h18 => ?_)
                · replace h18 : (y2 : Int) ≥ w 275 49 := h18
                  have hinf : (∀ i, 0 ≤ i → i < w 275 49 → w 276 (4 * i + 20836) ≠ 0 ∧ w 276 (4 * i + 20837) ≠ 0) := fun i g1 g2 => j16 i g1 (by omega)
                  refine e_Ok.ps1 (x := (1, 275)) (q := 95) 1 rfl ?_
                  refine e_Ok.callV rfl (e_dq hd rfl) rfl rfl rfl rfl (c_422_x hI.1 hB) (fun r19 w20 h21 => ?_)
                  obtain ⟨z22, rfl, rfl, q23⟩ := h21
                  obtain ⟨rfl, q23⟩ | ⟨rfl, q23⟩ := q23
                  · refine e_Ok.nrm (q := 98) (st' := [(0, 1)]) rfl rfl ?_
                    refine e_Ok.if1 rfl (fun h24 => ?_) (fun h24 => ?_)
                    · replace h24 : (1 : Int) = 0 := h24
                      exfalso; omega
                    · replace h24 : (1 : Int) ≠ 0 := (show ¬ ((1 : Int) = 0) from h24)
                      refine e_Ok.ps1 (x := (0, (-3))) (q := 103) 1 rfl ?_
                      refine e_Ok.rets rfl rfl ?_
                      exact ⟨_, rfl, Or.inl ⟨rfl, fun hc => by first | exact hc.2 (by assumption) | (have h1 := hc.1.1; omega) | (have h1 := hc.1.2 y2 (by omega) (by omega); omega)⟩⟩
                  · refine e_Ok.nrm (q := 98) (st' := [(0, 0)]) rfl rfl ?_
                    refine e_Ok.if1 rfl (fun h25 => ?_) (fun h25 => ?_)
                    · replace h25 : (0 : Int) = 0 := h25
                      refine e_Ok.run (t' := (106, [(2, (0, 0)), (0, (1, 275)), (1, (0, p1))], [], w)) 2 rfl ?_
                      have hL26 : ∀ (nn : Nat) (x2 : Int) (v1 : eW), e_fr mTi w v1 ∧ e_Has mTy v1 ∧ (0 ≤ x2 ∧ x2 ≤ 8 ∧ x2 ≤ w 275 49) ∧ e_fr mRs w v1 ∧ (∀ k, v1 276 k = rsI w x2 k) → 9 - x2 < nn → e_Ok 20 elay ecode eI (d + 1) 430 (106, [(0, (1, 275)), (1, (0, p1)), (2, (0, x2))], [], v1) (fun r w' => ∃ z : Int, r = [(0, z)] ∧ ((w = w' ∧ ¬ ((((0 ≤ p1 ∧ p1 ≤ 7) ∧ w 275 3 = 1 ∧ w 317 p1 ≠ 0 ∧ w 276 1 ≠ 1) ∧ (∀ i, 0 ≤ i → i < w 275 49 → w 276 (4 * i + 20836) ≠ 0 ∧ w 276 (4 * i + 20837) ≠ 0)) ∧ ¬ mBk w)) ∨ ((((0 ≤ p1 ∧ p1 ≤ 7) ∧ w 275 3 = 1 ∧ w 317 p1 ≠ 0 ∧ w 276 1 ≠ 1) ∧ (∀ i, 0 ≤ i → i < w 275 49 → w 276 (4 * i + 20836) ≠ 0 ∧ w 276 (4 * i + 20837) ≠ 0)) ∧ ¬ mBk w ∧ opS w w' G 5 p1 0 0 (nowF 319 [(0, (1, 275)), (1, (0, 3)), (2, (0, p1)), (3, (0, 0))] (wn w (fun k => rsW w (w 275 49) k))) ∧ evG w w'))) := by
                        intro nn
                        induction nn with
                        | zero => intro x2 v1 hj hm; obtain ⟨j28, j29, j30, j31, j32⟩ := hj; exfalso; omega
                        | succ nn ih27 =>
                          intro x2 v1 hj hm
                          obtain ⟨j28, j29, j30, j31, j32⟩ := hj
                          refine e_Ok.run (t' := (108, [(0, (1, 275)), (1, (0, p1)), (2, (0, x2))], [(1, 275), (0, x2)], v1)) 2 rfl ?_
                          refine e_Ok.getf (z := w 275 49) rfl (el_o rfl) rfl (ef_o rfl) ((j31 275 49 no_9g_0).trans rfl) (by omega) ?_
                          refine e_Ok.if2 rfl (fun h33 => ?_) (fun h33 => ?_)
                          · replace h33 : (x2 : Int) ≥ w 275 49 := h33
                            refine e_Ok.ps1 (x := (1, 275)) (q := 136) 1 rfl ?_
                            refine e_Ok.getr (z := 276) rfl (el_o rfl) rfl (ef_o rfl) ((j31 275 0 no_9g_0).trans (e_Has.eq hI.1 rfl)) ⟨by decide, by decide⟩ ?_
                            refine e_Ok.ps2 (x := (0, 1)) (y := (0, 1)) (q := 141) 2 rfl ?_
                            refine e_Ok.ast rfl (el_o rfl) rfl rfl (by omega) ?_
                            generalize hw34 : e_up v1 276 1 1 = w34
                            have f35 : e_fr mTi w w34 := e_fr.up j28 hw34 (by first | exact Or.inl rfl | (unfold mTi; omega))
                            have hT36 : e_Has mTy w34 := e_Has.upr j29 hw34 rfl (by omega)
                            have hx2 : x2 = w 275 49 := by omega
                            have hrs : ∀ k, w34 276 k = rsW w (w 275 49) k := fun k => by rw [← hx2]; exact rsW_of j32 hw34 k
                            have hI37 : mInv w34 G := mInv.power hI (e_fr.up j31 hw34 (by unfold mRs; omega)) hT36 (by rw [show w34 276 1 = 1 from (e_ue hw34)]; decide)
                            refine e_Ok.ps4 (x := (0, 0)) (y := (0, p1)) (z := (0, 3)) (u := (1, 275)) (q := 146) 4 rfl ?_
                            have e5 : w34 276 5 = w 276 5 := (e_uq hw34 (Or.inr (by decide)) ((j31 276 5 no_9g_1).trans rfl))
                            have e0 : w34 276 0 = w 276 0 := (e_uq hw34 (Or.inr (by decide)) ((j31 276 0 no_9g_2).trans rfl))
                            refine e_Ok.callV rfl (e_dq hd rfl) rfl rfl rfl rfl (d_319 hT36 (by omega) (by omega) (by omega) (by omega)) (fun r38 w40 h41 => ?_)
                            obtain ⟨⟨rfl, q42, q42T, q42n⟩, q42x⟩ := h41
                            have f43 : e_fr mTi w w40 := e_fr.trans f35 (e_fr.mono q42 (fun c k q => by exact e_ti q))
                            have hI44 : mInv w40 G := mInv.same hI37 q42 q42T (fun c k q => e_idl q)
                            have q42o := q42 276 0 no_9g_3
                            have q42y : ∀ k, w40 276 k = nowF 319 [(0, (1, 275)), (1, (0, 3)), (2, (0, p1)), (3, (0, 0))] (wn w (fun k => rsW w (w 275 49) k)) k := fun k => by rw [q42x k, nowF_eq (wn_low f35 hrs)]
                            refine e_Ok.nrm (q := 149) (st' := []) rfl rfl ?_
                            refine e_Ok.run (t' := (154, [(0, (1, 275)), (1, (0, p1)), (2, (0, x2))], [(0, 0), (0, 0), (0, p1), (0, 5), (1, 275)], w40)) 5 rfl ?_
                            refine e_Ok.callV rfl (e_dq hd rfl) rfl rfl rfl rfl (c_423_u (e_dq hd rfl) q42T (bkE.fr hB (f43 275 5 no_9g_4) (f43 275 6 no_9g_5) (fun k => f43 356 k no_9g_6)).1 (fun e => by have e5 : w40 275 5 = w 275 5 := f43 275 5 no_9g_4; have e6 : w40 275 6 = w 275 6 := f43 275 6 no_9g_5; have h1 := hB.1; have h2 := (show ¬ mBk w by assumption); unfold mBk at h2; omega) (by decide) (fun e => by omega)) (fun r45 w46 h47 => ?_)
                            obtain ⟨rfl, q48⟩ := h47
                            refine e_Ok.nrm (q := 157) (st' := []) rfl rfl ?_
                            refine e_Ok.ps1 (x := (0, 1)) (q := 158) 1 rfl ?_
                            refine e_Ok.rets rfl rfl ?_
                            have ek0 : w40 276 0 = w 276 0 := ((q42 276 0 no_9g_3).trans (e_uq hw34 (Or.inr (by decide)) ((j31 276 0 no_9g_2).trans rfl)))
                            have ek5 : w40 276 5 = w40 276 5 := rfl
                            exact ⟨_, rfl, Or.inr ⟨⟨hcond, hinf⟩, by assumption, opS.ev (wm := w40) (opS.of f43 hI44 q42y q48) q42y (by unfold evG; omega)⟩⟩
                          · replace h33 : (x2 : Int) < w 275 49 := Int.not_le.mp (show ¬ ((x2 : Int) ≥ w 275 49) from h33)
                            refine e_Ok.ps1 (x := (1, 275)) (q := 115) 1 rfl ?_
                            refine e_Ok.getr (z := 276) rfl (el_o rfl) rfl (ef_o rfl) ((j31 275 0 no_9g_0).trans (e_Has.eq hI.1 rfl)) ⟨by decide, by decide⟩ ?_
                            refine e_Ok.ps3 (x := (0, x2)) (y := (0, 4)) (z := (0, 20836)) (q := 123) 3 rfl ?_
                            refine e_Ok.mul (z := 4 * x2) rfl rfl (by omega) ?_
                            refine e_Ok.add (z := 4 * x2 + 20836) rfl (Int.add_comm _ _) (by omega) ?_
                            refine e_Ok.ps1 (x := (0, 3)) (q := 126) 1 rfl ?_
                            refine e_Ok.add (z := 4 * x2 + 20839) rfl (e_adl (by decide)) (by omega) ?_
                            refine e_Ok.ps1 (x := (0, 0)) (q := 128) 1 rfl ?_
                            refine e_Ok.ast rfl (el_o rfl) rfl rfl (by omega) ?_
                            generalize hw49 : e_up v1 276 (4 * x2 + 20839) 0 = w49
                            have hT51 : e_Has mTy w49 := e_Has.upr j29 hw49 (nR_INPUT (i := x2) (f := 3) (by omega) (by decide)) (by omega)
                            refine e_Ok.inc (z := x2 + 1) rfl rfl (by first | with_reducible rfl | omega) (by omega) ?_
                            show e_Ok 20 elay ecode eI (d + 1) 430 (132, [(2, (0, x2 + 1)), (0, (1, 275)), (1, (0, p1))], [], w49) _
                            refine e_Ok.ps0 (q := 106) 1 rfl ?_
                            refine e_Ok.sub eAlk (e_sub_of rfl ?_) (ih27 (x2 + 1) w49 ⟨(show e_fr mTi w w49 from e_fr.up j28 hw49 (by first | exact Or.inl rfl | (unfold mTi; omega))), hT51, by omega, (e_fr.up j31 hw49 (by unfold mRs; omega)), (fun k => rsI_step (by omega) j32 hw49 k)⟩ (by omega))
                            exact ⟨rfl, rfl, rfl, trivial⟩
                      refine e_Ok.sub eAlk (e_sub_of rfl ?_) (hL26 (9 + 1 : Int).toNat 0 w ⟨(e_fr.refl w), hI.1, by omega, (e_fr.refl w), (fun k => rsI_0 w k)⟩ (by omega))
                      exact ⟨rfl, rfl, rfl, trivial⟩
                    · replace h25 : (0 : Int) ≠ 0 := (show ¬ ((0 : Int) = 0) from h25)
                      exfalso; omega
                · replace h18 : (y2 : Int) < w 275 49 := Int.not_le.mp (show ¬ ((y2 : Int) ≥ w 275 49) from h18)
                  refine e_Ok.ps1 (x := (1, 275)) (q := 54) 1 rfl ?_
                  refine e_Ok.getr (z := 276) rfl (el_o rfl) rfl (ef_o rfl) (e_Has.eq hI.1 rfl) ⟨by decide, by decide⟩ ?_
                  refine e_Ok.ps3 (x := (0, y2)) (y := (0, 4)) (z := (0, 20836)) (q := 62) 3 rfl ?_
                  refine e_Ok.mul (z := 4 * y2) rfl rfl (by omega) ?_
                  refine e_Ok.add (z := 4 * y2 + 20836) rfl (Int.add_comm _ _) (by omega) ?_
                  have h52 := (e_Has.get hI.1 (c := 276) (k := 4 * y2 + 20836) (lo := 0) (hi := 1) (nR_INPUT (i := y2) (f := 0) (by omega) (by decide)) (by decide))
                  refine e_Ok.ald (z := w 276 (4 * y2 + 20836)) rfl (el_o rfl) rfl (by omega) rfl (e_bq h52 (by decide) (by decide)) ?_
                  refine e_Ok.if1 rfl (fun h53 => ?_) (fun h53 => ?_)
                  · replace h53 : (w 276 (4 * y2 + 20836) : Int) = 0 := h53
                    refine e_Ok.ps1 (x := (0, (-2))) (q := 87) 1 rfl ?_
                    refine e_Ok.rets rfl rfl ?_
                    exact ⟨_, rfl, Or.inl ⟨rfl, fun hc => by first | exact hc.2 (by assumption) | (have h1 := hc.1.1; omega) | (have h1 := hc.1.2 y2 (by omega) (by omega); omega)⟩⟩
                  · replace h53 : (w 276 (4 * y2 + 20836) : Int) ≠ 0 := (show ¬ ((w 276 (4 * y2 + 20836) : Int) = 0) from h53)
                    refine e_Ok.ps1 (x := (1, 275)) (q := 69) 1 rfl ?_
                    refine e_Ok.getr (z := 276) rfl (el_o rfl) rfl (ef_o rfl) (e_Has.eq hI.1 rfl) ⟨by decide, by decide⟩ ?_
                    refine e_Ok.ps3 (x := (0, y2)) (y := (0, 4)) (z := (0, 20836)) (q := 77) 3 rfl ?_
                    refine e_Ok.mul (z := 4 * y2) rfl rfl (by omega) ?_
                    refine e_Ok.add (z := 4 * y2 + 20836) rfl (Int.add_comm _ _) (by omega) ?_
                    refine e_Ok.ps1 (x := (0, 1)) (q := 80) 1 rfl ?_
                    refine e_Ok.add (z := 4 * y2 + 20837) rfl (e_adl (by decide)) (by omega) ?_
                    have h54 := (e_Has.get hI.1 (c := 276) (k := 4 * y2 + 20837) (lo := 0) (hi := 1) (nR_INPUT (i := y2) (f := 1) (by omega) (by decide)) (by decide))
                    refine e_Ok.ald (z := w 276 (4 * y2 + 20837)) rfl (el_o rfl) rfl (by omega) rfl (e_bq h54 (by decide) (by decide)) ?_
                    refine e_Ok.if1 rfl (fun h55 => ?_) (fun h55 => ?_)
                    · replace h55 : (w 276 (4 * y2 + 20837) : Int) ≠ 0 := h55
                      refine e_Ok.inc (z := y2 + 1) rfl rfl (by first | with_reducible rfl | omega) (by omega) ?_
                      show e_Ok 20 elay ecode eI (d + 1) 430 (91, [(2, (0, y2 + 1)), (0, (1, 275)), (1, (0, p1))], [], w) _
                      refine e_Ok.ps0 (q := 45) 1 rfl ?_
                      refine e_Ok.sub eAlk (e_sub_of rfl ?_) (ih14 (y2 + 1) ⟨by omega, (fun i g1 g2 => Decidable.byCases (p := i = y2) (fun e => by rw [e]; omega) (fun e => j16 i g1 (by omega)))⟩ (by omega))
                      exact ⟨rfl, rfl, rfl, trivial⟩
                    · replace h55 : (w 276 (4 * y2 + 20837) : Int) = 0 := Classical.not_not.mp (show ¬ ((w 276 (4 * y2 + 20837) : Int) ≠ 0) from h55)
                      refine e_Ok.ps1 (x := (0, (-2))) (q := 87) 1 rfl ?_
                      refine e_Ok.rets rfl rfl ?_
                      exact ⟨_, rfl, Or.inl ⟨rfl, fun hc => by first | exact hc.2 (by assumption) | (have h1 := hc.1.1; omega) | (have h1 := hc.1.2 y2 (by omega) (by omega); omega)⟩⟩
            refine e_Ok.sub eAlk (e_sub_of rfl ?_) (hL13 (9 + 1 : Int).toNat 0 ⟨by omega, (fun i g1 g2 => by omega)⟩ (by omega))
            exact ⟨rfl, rfl, rfl, trivial⟩
          · replace h12 : (w 276 1 : Int) = 1 := Classical.not_not.mp (show ¬ ((w 276 1 : Int) ≠ 1) from h12)
            refine e_Ok.ps1 (x := (0, (-2))) (q := 42) 1 rfl ?_
            refine e_Ok.rets rfl rfl ?_
            exact ⟨_, rfl, Or.inl ⟨rfl, fun hc => by first | exact hc.2 (by assumption) | (have h1 := hc.1.1; omega) | (have h1 := hc.1.2 y2 (by omega) (by omega); omega)⟩⟩
    · replace h6 : (1 : Int) = 0 := Classical.not_not.mp (show ¬ ((1 : Int) ≠ 0) from h6)
      exfalso; omega
  · refine e_Ok.nrm (q := 9) (st' := [(0, 0)]) rfl rfl ?_
    refine e_Ok.if1 rfl (fun h56 => ?_) (fun h56 => ?_)
    · replace h56 : (0 : Int) ≠ 0 := h56
      exfalso; omega
    · replace h56 : (0 : Int) = 0 := Classical.not_not.mp (show ¬ ((0 : Int) ≠ 0) from h56)
      refine e_Ok.ps1 (x := (0, (-1))) (q := 13) 1 rfl ?_
      refine e_Ok.rets rfl rfl ?_
      exact ⟨_, rfl, Or.inl ⟨rfl, fun hc => by first | exact hc.2 (by assumption) | (have h1 := hc.1.1; omega) | (have h1 := hc.1.2 y2 (by omega) (by omega); omega)⟩⟩
end
end
-- part 9h
section
noncomputable section
/-! force: what was nought before, and what has risen behind -/
def K1 (c k : Int) : Prop := K0 c k ∨ (c = 327 ∧ 0 ≤ k ∧ k ≤ 63)
def bcF (w : eW) (k : Int) : Int := (e_phi 321 (0, [(0, (1, 275))], [], e_pz K0 w)).2 327 k
theorem mAc.low {w u : eW} (h : mAc w) (hu : ∀ c k, K0 c k → u c k = w c k) : mAc u := mAc.fr' (S := fun c k => ¬ K0 c k) (fun k q => q (by exact (by decide : (-1 : Int) ≤ 63))) (fun c k q => hu c k (Classical.not_not.mp q)) h
theorem d_321 {d : Nat} (hd : 21 ≤ d) {w : eW} (hT : e_Has mTy w) (hA : mAc w) : e_Ok 20 elay ecode eI d 321 (0, [(0, (1, 275))], [], w) (fun r w' => (r = [] ∧ e_fr mW w w' ∧ e_kr w' 327 0 63 0 1) ∧ ∀ k, 0 ≤ k → k ≤ 63 → w' 327 k = bcF w k) := by
  refine (e_Ok.det (l := [(0, (1, 275))]) K0 (by decide) (fun u hu => c_321 hd (hT.low hu) (hA.low hu))).imp (fun r v h => ?_)
  obtain ⟨h1, ⟨-, -, h2⟩, -, h4⟩ := h
  refine ⟨h1, fun k g1 g2 => h4 327 k ?_⟩
  have := h2 k g1 g2
  unfold e_okz
  simp only [Bool.and_eq_true, decide_eq_true_eq]
  omega
def hcF (w : eW) (k : Int) : Int := (e_phi 322 (0, [(0, (1, 275))], [], e_pz K1 w)).2 276 k
theorem d_322 {d : Nat} (hd : 21 ≤ d) {w : eW} (hT : e_Has mTy w) (hA : mAc w) (hk : e_kr w 327 0 63 0 1) : e_Ok 20 elay ecode eI d 322 (0, [(0, (1, 275))], [], w) (fun r w' => (r = [] ∧ e_fr mR w w' ∧ e_Has mTy w') ∧ ∀ k, w' 276 k = hcF w k) := by
  refine (e_Ok.det (l := [(0, (1, 275))]) K1 (by decide) (fun u hu => c_322 hd (hT.low (fun c k q => hu c k (Or.inl q))) (hA.low (fun c k q => hu c k (Or.inl q))) (fun i g1 g2 => by rw [hu 327 i (Or.inr ⟨rfl, g1, g2⟩)]; exact hk i g1 g2))).imp (fun r v h => ?_)
  obtain ⟨h1, ⟨-, -, h2⟩, -, h4⟩ := h
  refine ⟨h1, fun k => h4 276 k ?_⟩
  have := h2.now k
  unfold e_okz
  simp only [Bool.and_eq_true, decide_eq_true_eq]
  exact this
/-- the cell before behindChange -/
def fcZ (w : eW) (p v o : Int) : eW := fun c k => if c = 327 then bcF w k else e_up (e_up w 276 (p + 224) o) 276 (p + 288) (if o = 0 then 0 else v) c k
theorem K0_w {c k : Int} (q : K0 c k) : ¬ mW c k := by
  intro h
  rcases h with rfl | rfl <;> exact absurd q (by decide : ¬ ((1 : Int) ≤ 0))
theorem fcZ_low {w w1 w2 w4 : eW} {p v o x : Int} (hW : e_fr mW w w1) (h7 : ∀ k, 0 ≤ k → k ≤ 63 → w1 327 k = bcF w k) (h1 : e_up w1 276 (p + 224) o = w2) (h2 : e_up w2 276 (p + 288) x = w4) (hx : x = if o = 0 then 0 else v) : ∀ c k, K1 c k → w4 c k = fcZ w p v o c k := by
  intro c k q
  rw [← h2, ← h1, hx]
  unfold fcZ
  by_cases e : c = 327
  · rw [if_pos e, e, e_up_ne _ _ (Or.inl (by decide)), e_up_ne _ _ (Or.inl (by decide))]
    rcases q with q | q
    · rw [e] at q
      exact absurd q (by decide : ¬ ((1 : Int) ≤ 0))
    · exact h7 k q.2.1 q.2.2
  · rw [if_neg e]
    have q1 : K0 c k := q.resolve_right (fun h => e h.1)
    unfold e_up
    rw [hW c k (K0_w q1)]
theorem fc_eq {w w1 w2 w4 : eW} {p v o x : Int} (hW : e_fr mW w w1) (h7 : ∀ k, 0 ≤ k → k ≤ 63 → w1 327 k = bcF w k) (h1 : e_up w1 276 (p + 224) o = w2) (h2 : e_up w2 276 (p + 288) x = w4) (hx : x = if o = 0 then 0 else v) (k : Int) : hcF w4 k = hcF (fcZ w p v o) k := by
  unfold hcF
  rw [e_pz_eq (fcZ_low hW h7 h1 h2 hx)]
theorem w_idl {c k : Int} (q : mW c k) : idl c k := by unfold mW at q; unfold idl; omega
theorem w_ti {c k : Int} (q : mW c k) : mTi c k := by unfold mW at q; unfold mTi; omega
theorem r_idl {c k : Int} (q : mR c k) : idl c k := by unfold mR at q; unfold idl; omega
theorem r_ti {c k : Int} (q : mR c k) : mTi c k := by unfold mR at q; unfold mTi; omega
end
end
-- part 9i
section
noncomputable section
theorem no_9i_0 {k : Int} : ¬ mW 275 k := by unfold mW; omega
theorem no_9i_1 : ¬ mR 276 0 := by unfold mR; omega
theorem no_9i_2 {k : Int} : ¬ mW 276 k := by unfold mW; omega
theorem no_9i_3 : ¬ mR 276 5 := by unfold mR; omega
theorem no_9i_4 : ¬ mTi 275 5 := by unfold mTi; omega
theorem no_9i_5 : ¬ mTi 275 6 := by unfold mTi; omega
theorem no_9i_6 {k : Int} : ¬ mTi 356 k := by unfold mTi; omega
set_option maxHeartbeats 4000000 in
theorem c_428 {d : Nat} (hd : 27 ≤ d) {w : eW} {G : Int → Gh} (hI : mInv w G) (hB : bkE w) (hE : w 276 5 ≤ 7000000) {p1 p2 p3 : Int} (g1 : -2147483648 ≤ p1 ∧ p1 ≤ 2147483647) (g2 : -2147483648 ≤ p2 ∧ p2 ≤ 2147483647) (g3 : -2147483648 ≤ p3 ∧ p3 ≤ 2147483647) (hz3 : 0 ≤ p3 ∧ p3 ≤ 1) : e_Ok 20 elay ecode eI d 428 (0, [(0, (1, 275)), (1, (0, p1)), (2, (0, p2)), (3, (0, p3))], [], w) (fun r w' => ∃ z : Int, r = [(0, z)] ∧ ((w = w' ∧ ¬ ((0 ≤ p1 ∧ p1 ≤ 63 ∧ w 275 3 = 1) ∧ ¬ mBk w)) ∨ ((0 ≤ p1 ∧ p1 ≤ 63 ∧ w 275 3 = 1) ∧ ¬ mBk w ∧ opS w w' G 3 p1 p2 p3 (fun k => hcF (fcZ w p1 p2 p3) k) ∧ evG w w'))) := by
  obtain ⟨d, rfl⟩ : ∃ e, d = e + 1 := ⟨d - 1, by omega⟩
  refine e_Ok.ps2 (x := (0, p1)) (y := (1, 275)) (q := 2) 2 rfl ?_
  refine e_Ok.callV rfl (e_dq hd rfl) rfl rfl rfl rfl (c_424 (e_dq hd rfl)) (fun r1 w2 h3 => ?_)
  obtain ⟨z4, rfl, rfl, q5⟩ := h3
  obtain ⟨rfl, q5⟩ | ⟨rfl, q5⟩ := q5
  · refine e_Ok.nrm (q := 5) (st' := [(0, 1)]) rfl rfl ?_
    refine e_Ok.if1 rfl (fun h6 => ?_) (fun h6 => ?_)
    · replace h6 : (1 : Int) ≠ 0 := h6
      refine e_Ok.ps1 (x := (1, 275)) (q := 11) 1 rfl ?_
      have h7 := (e_Has.get hI.1 (c := 275) (k := 3) (lo := 0) (hi := 1) rfl (by decide))
      refine e_Ok.getf (z := w 275 3) rfl (el_o rfl) rfl (ef_o rfl) rfl (e_bq h7 (by decide) (by decide)) ?_
      refine e_Ok.if1 rfl (fun h8 => ?_) (fun h8 => ?_)
      · replace h8 : (w 275 3 : Int) ≠ 0 := h8
        refine e_Ok.ps1 (x := (1, 275)) (q := 21) 1 rfl ?_
        refine e_Ok.callV rfl (e_dq hd rfl) rfl rfl rfl rfl (c_422_x hI.1 hB) (fun r9 w10 h11 => ?_)
        obtain ⟨z12, rfl, rfl, q13⟩ := h11
        obtain ⟨rfl, q13⟩ | ⟨rfl, q13⟩ := q13
        · refine e_Ok.nrm (q := 24) (st' := [(0, 1)]) rfl rfl ?_
          refine e_Ok.if1 rfl (fun h14 => ?_) (fun h14 => ?_)
          · replace h14 : (1 : Int) = 0 := h14
            exfalso; omega
          · replace h14 : (1 : Int) ≠ 0 := (show ¬ ((1 : Int) = 0) from h14)
            refine e_Ok.ps1 (x := (0, (-3))) (q := 29) 1 rfl ?_
            refine e_Ok.rets rfl rfl ?_
            exact ⟨_, rfl, Or.inl ⟨rfl, fun hc => by first | exact hc.2 (by assumption) | (have h1 := hc.1; omega)⟩⟩
        · refine e_Ok.nrm (q := 24) (st' := [(0, 0)]) rfl rfl ?_
          refine e_Ok.if1 rfl (fun h15 => ?_) (fun h15 => ?_)
          · replace h15 : (0 : Int) = 0 := h15
            refine e_Ok.ps1 (x := (1, 275)) (q := 31) 1 rfl ?_
            refine e_Ok.getr (z := 276) rfl (el_o rfl) rfl (ef_o rfl) (e_Has.eq hI.1 rfl) ⟨by decide, by decide⟩ ?_
            refine e_Ok.ps2 (x := (0, p1)) (y := (0, 224)) (q := 38) 2 rfl ?_
            refine e_Ok.add (z := p1 + 224) rfl (Int.add_comm _ _) (by omega) ?_
            have h16 := (e_Has.get hI.1 (c := 276) (k := p1 + 224) (lo := 0) (hi := 1) (nR_FORCED (p := p1) (by omega)) (by decide))
            refine e_Ok.ald (z := w 276 (p1 + 224)) rfl (el_o rfl) rfl (by omega) rfl (e_bq h16 (by decide) (by decide)) ?_
            refine e_Ok.run (t' := (43, [(4, (0, w 276 (p1 + 224))), (0, (1, 275)), (1, (0, p1)), (2, (0, p2)), (3, (0, p3))], [(1, 275)], w)) 2 rfl ?_
            refine e_Ok.callV rfl (e_dq hd rfl) rfl rfl rfl rfl (d_321 (e_dq hd rfl) hI.1 hI.2.1) (fun r17 w18 h19 => ?_)
            obtain ⟨⟨rfl, q20, q20k⟩, q20x⟩ := h19
            have f21 : e_fr mTi w w18 := e_fr.trans (e_fr.refl w) (e_fr.mono q20 (fun c k q => by exact w_ti q))
            have q20T : e_Has mTy w18 := hI.1.low (fun c k q => q20 c k (K0_w q))
            have hI22 : mInv w18 G := mInv.same hI q20 q20T (fun c k q => w_idl q)
            refine e_Ok.nrm (q := 46) (st' := []) rfl rfl ?_
            refine e_Ok.ps1 (x := (1, 275)) (q := 47) 1 rfl ?_
            refine e_Ok.getr (z := 276) rfl (el_o rfl) rfl (ef_o rfl) ((q20 275 0 no_9i_0).trans (e_Has.eq hI.1 rfl)) ⟨by decide, by decide⟩ ?_
            refine e_Ok.ps2 (x := (0, p1)) (y := (0, 224)) (q := 54) 2 rfl ?_
            refine e_Ok.add (z := p1 + 224) rfl (Int.add_comm _ _) (by omega) ?_
            refine e_Ok.ps1 (x := (0, p3)) (q := 56) 1 rfl ?_
            refine e_Ok.if1 rfl (fun h23 => ?_) (fun h23 => ?_)
            · replace h23 : (p3 : Int) = 0 := h23
              refine e_Ok.ps1 (x := (0, 0)) (q := 64) 1 rfl ?_
              refine e_Ok.ast rfl (el_o rfl) rfl rfl (by omega) ?_
              generalize hw24 : e_up w18 276 (p1 + 224) 0 = w24
              have hT26 : e_Has mTy w24 := e_Has.upr q20T hw24 (nR_FORCED (p := p1) (by omega)) (by omega)
              refine e_Ok.ps1 (x := (1, 275)) (q := 66) 1 rfl ?_
              refine e_Ok.getr (z := 276) rfl (el_o rfl) rfl (ef_o rfl) (e_uq hw24 (Or.inl (by decide)) ((q20 275 0 no_9i_0).trans (e_Has.eq hI.1 rfl))) ⟨by decide, by decide⟩ ?_
              refine e_Ok.ps2 (x := (0, p1)) (y := (0, 288)) (q := 73) 2 rfl ?_
              refine e_Ok.add (z := p1 + 288) rfl (Int.add_comm _ _) (by omega) ?_
              refine e_Ok.ps1 (x := (0, p3)) (q := 75) 1 rfl ?_
              refine e_Ok.if1 rfl (fun h27 => ?_) (fun h27 => ?_)
              · replace h27 : (p3 : Int) = 0 := h27
                refine e_Ok.ps1 (x := (0, 0)) (q := 83) 1 rfl ?_
                refine e_Ok.ast rfl (el_o rfl) rfl rfl (by omega) ?_
                generalize hw28 : e_up w24 276 (p1 + 288) 0 = w28
                have hT30 : e_Has mTy w28 := e_Has.upr hT26 hw28 (nR_FORCE (p := p1) (by omega)) (by omega)
                have hI31 : mInv w28 G := mInv.up1 (mInv.up1 hI22 hw24 hT26 (by unfold idl; omega)) hw28 hT30 (by unfold idl; omega)
                refine e_Ok.ps1 (x := (1, 275)) (q := 85) 1 rfl ?_
                refine e_Ok.callV rfl (e_dq hd rfl) rfl rfl rfl rfl (d_322 (e_dq hd rfl) hI31.1 hI31.2.1 (fun i g1 g2 => by rw [show w28 327 i = w18 327 i from (e_uq hw28 (Or.inl (by omega)) (e_uq hw24 (Or.inl (by omega)) rfl))]; exact q20k i g1 g2)) (fun r32 w33 h34 => ?_)
                obtain ⟨⟨rfl, q35, q35T⟩, q35x⟩ := h34
                have f36 : e_fr mTi w w33 := e_fr.trans (show e_fr mTi w w28 from e_fr.up (show e_fr mTi w w24 from e_fr.up f21 hw24 (by first | exact Or.inl rfl | (unfold mTi; omega))) hw28 (by first | exact Or.inl rfl | (unfold mTi; omega))) (e_fr.mono q35 (fun c k q => by exact r_ti q))
                have hI37 : mInv w33 G := mInv.same hI31 q35 q35T (fun c k q => r_idl q)
                have q35p3 : p3 = 0 := by omega
                have q35y : ∀ k, w33 276 k = hcF (fcZ w p1 p2 p3) k := fun k => by rw [q35x k, q35p3]; exact fc_eq q20 q20x hw24 hw28 (by rw [if_pos rfl]) k
                have q35e0 : w33 276 0 = w 276 0 := (q35 276 0 no_9i_1).trans (e_uq hw28 (Or.inr (by omega)) (e_uq hw24 (Or.inr (by omega)) ((q20 276 0 no_9i_2).trans rfl)))
                have q35e5 : w33 276 5 = w 276 5 := (q35 276 5 no_9i_3).trans (e_uq hw28 (Or.inr (by omega)) (e_uq hw24 (Or.inr (by omega)) ((q20 276 5 no_9i_2).trans rfl)))
                refine e_Ok.nrm (q := 88) (st' := []) rfl rfl ?_
                refine e_Ok.run (t' := (93, [(4, (0, w 276 (p1 + 224))), (0, (1, 275)), (1, (0, p1)), (2, (0, p2)), (3, (0, p3))], [(0, p3), (0, p2), (0, p1), (0, 3), (1, 275)], w33)) 5 rfl ?_
                refine e_Ok.if1 rfl (fun h38 => ?_) (fun h38 => ?_)
                · replace h38 : (p3 : Int) = 0 := h38
                  refine e_Ok.ps1 (x := (0, 0)) (q := 101) 1 rfl ?_
                  refine e_Ok.callV rfl (e_dq hd rfl) rfl rfl rfl rfl (c_423_u (e_dq hd rfl) q35T (bkE.fr hB (f36 275 5 no_9i_4) (f36 275 6 no_9i_5) (fun k => f36 356 k no_9i_6)).1 (fun e => by have e5 : w33 275 5 = w 275 5 := f36 275 5 no_9i_4; have e6 : w33 275 6 = w 275 6 := f36 275 6 no_9i_5; have h1 := hB.1; have h2 := (show ¬ mBk w by assumption); unfold mBk at h2; omega) (by decide) (fun e => by omega)) (fun r40 w41 h42 => ?_)
                  obtain ⟨rfl, q43⟩ := h42
                  refine e_Ok.nrm (q := 104) (st' := []) rfl rfl ?_
                  refine e_Ok.ps1 (x := (0, w 276 (p1 + 224))) (q := 106) 1 rfl ?_
                  refine e_Ok.rets rfl rfl ?_
                  have ek0 : w33 276 0 = w 276 0 := ((q35 276 0 no_9i_1).trans (e_uq hw28 (Or.inr (by omega)) (e_uq hw24 (Or.inr (by omega)) ((q20 276 0 no_9i_2).trans rfl))))
                  have ek5 : w33 276 5 = w 276 5 := ((q35 276 5 no_9i_3).trans (e_uq hw28 (Or.inr (by omega)) (e_uq hw24 (Or.inr (by omega)) ((q20 276 5 no_9i_2).trans rfl))))
                  exact ⟨_, rfl, Or.inr ⟨⟨by omega, by omega, by omega⟩, by assumption, opS.ev (wm := w33) (opS.of f36 hI37 q35y (by rw [show p3 = 0 by omega]; exact q43)) q35y (by unfold evG; omega)⟩⟩
                · replace h38 : (p3 : Int) ≠ 0 := (show ¬ ((p3 : Int) = 0) from h38)
                  exfalso; omega
              · replace h27 : (p3 : Int) ≠ 0 := (show ¬ ((p3 : Int) = 0) from h27)
                exfalso; omega
            · replace h23 : (p3 : Int) ≠ 0 := (show ¬ ((p3 : Int) = 0) from h23)
              refine e_Ok.ps1 (x := (0, 1)) (q := 64) 2 rfl ?_
              refine e_Ok.ast rfl (el_o rfl) rfl rfl (by omega) ?_
              generalize hw44 : e_up w18 276 (p1 + 224) 1 = w44
              have hT46 : e_Has mTy w44 := e_Has.upr q20T hw44 (nR_FORCED (p := p1) (by omega)) (by omega)
              refine e_Ok.ps1 (x := (1, 275)) (q := 66) 1 rfl ?_
              refine e_Ok.getr (z := 276) rfl (el_o rfl) rfl (ef_o rfl) (e_uq hw44 (Or.inl (by decide)) ((q20 275 0 no_9i_0).trans (e_Has.eq hI.1 rfl))) ⟨by decide, by decide⟩ ?_
              refine e_Ok.ps2 (x := (0, p1)) (y := (0, 288)) (q := 73) 2 rfl ?_
              refine e_Ok.add (z := p1 + 288) rfl (Int.add_comm _ _) (by omega) ?_
              refine e_Ok.ps1 (x := (0, p3)) (q := 75) 1 rfl ?_
              refine e_Ok.if1 rfl (fun h47 => ?_) (fun h47 => ?_)
              · replace h47 : (p3 : Int) = 0 := h47
                exfalso; omega
              · replace h47 : (p3 : Int) ≠ 0 := (show ¬ ((p3 : Int) = 0) from h47)
                refine e_Ok.ps1 (x := (0, p2)) (q := 83) 2 rfl ?_
                refine e_Ok.ast rfl (el_o rfl) rfl rfl (by omega) ?_
                generalize hw48 : e_up w44 276 (p1 + 288) p2 = w48
                have hT50 : e_Has mTy w48 := e_Has.upr hT46 hw48 (nR_FORCE (p := p1) (by omega)) (by omega)
                have hI51 : mInv w48 G := mInv.up1 (mInv.up1 hI22 hw44 hT46 (by unfold idl; omega)) hw48 hT50 (by unfold idl; omega)
                refine e_Ok.ps1 (x := (1, 275)) (q := 85) 1 rfl ?_
                refine e_Ok.callV rfl (e_dq hd rfl) rfl rfl rfl rfl (d_322 (e_dq hd rfl) hI51.1 hI51.2.1 (fun i g1 g2 => by rw [show w48 327 i = w18 327 i from (e_uq hw48 (Or.inl (by omega)) (e_uq hw44 (Or.inl (by omega)) rfl))]; exact q20k i g1 g2)) (fun r52 w53 h54 => ?_)
                obtain ⟨⟨rfl, q55, q55T⟩, q55x⟩ := h54
                have f56 : e_fr mTi w w53 := e_fr.trans (show e_fr mTi w w48 from e_fr.up (show e_fr mTi w w44 from e_fr.up f21 hw44 (by first | exact Or.inl rfl | (unfold mTi; omega))) hw48 (by first | exact Or.inl rfl | (unfold mTi; omega))) (e_fr.mono q55 (fun c k q => by exact r_ti q))
                have hI57 : mInv w53 G := mInv.same hI51 q55 q55T (fun c k q => r_idl q)
                have q55p3 : p3 = 1 := by omega
                have q55y : ∀ k, w53 276 k = hcF (fcZ w p1 p2 p3) k := fun k => by rw [q55x k, q55p3]; exact fc_eq q20 q20x hw44 hw48 (by rw [if_neg (by decide)]) k
                have q55e0 : w53 276 0 = w 276 0 := (q55 276 0 no_9i_1).trans (e_uq hw48 (Or.inr (by omega)) (e_uq hw44 (Or.inr (by omega)) ((q20 276 0 no_9i_2).trans rfl)))
                have q55e5 : w53 276 5 = w 276 5 := (q55 276 5 no_9i_3).trans (e_uq hw48 (Or.inr (by omega)) (e_uq hw44 (Or.inr (by omega)) ((q20 276 5 no_9i_2).trans rfl)))
                refine e_Ok.nrm (q := 88) (st' := []) rfl rfl ?_
                refine e_Ok.run (t' := (93, [(4, (0, w 276 (p1 + 224))), (0, (1, 275)), (1, (0, p1)), (2, (0, p2)), (3, (0, p3))], [(0, p3), (0, p2), (0, p1), (0, 3), (1, 275)], w53)) 5 rfl ?_
                refine e_Ok.if1 rfl (fun h58 => ?_) (fun h58 => ?_)
                · replace h58 : (p3 : Int) = 0 := h58
                  exfalso; omega
                · replace h58 : (p3 : Int) ≠ 0 := (show ¬ ((p3 : Int) = 0) from h58)
                  refine e_Ok.ps1 (x := (0, 1)) (q := 101) 2 rfl ?_
                  refine e_Ok.callV rfl (e_dq hd rfl) rfl rfl rfl rfl (c_423_u (e_dq hd rfl) q55T (bkE.fr hB (f56 275 5 no_9i_4) (f56 275 6 no_9i_5) (fun k => f56 356 k no_9i_6)).1 (fun e => by have e5 : w53 275 5 = w 275 5 := f56 275 5 no_9i_4; have e6 : w53 275 6 = w 275 6 := f56 275 6 no_9i_5; have h1 := hB.1; have h2 := (show ¬ mBk w by assumption); unfold mBk at h2; omega) (by decide) (fun e => by omega)) (fun r59 w60 h61 => ?_)
                  obtain ⟨rfl, q62⟩ := h61
                  refine e_Ok.nrm (q := 104) (st' := []) rfl rfl ?_
                  refine e_Ok.ps1 (x := (0, w 276 (p1 + 224))) (q := 106) 1 rfl ?_
                  refine e_Ok.rets rfl rfl ?_
                  have ek0 : w53 276 0 = w 276 0 := ((q55 276 0 no_9i_1).trans (e_uq hw48 (Or.inr (by omega)) (e_uq hw44 (Or.inr (by omega)) ((q20 276 0 no_9i_2).trans rfl))))
                  have ek5 : w53 276 5 = w 276 5 := ((q55 276 5 no_9i_3).trans (e_uq hw48 (Or.inr (by omega)) (e_uq hw44 (Or.inr (by omega)) ((q20 276 5 no_9i_2).trans rfl))))
                  exact ⟨_, rfl, Or.inr ⟨⟨by omega, by omega, by omega⟩, by assumption, opS.ev (wm := w53) (opS.of f56 hI57 q55y (by rw [show p3 = 1 by omega]; exact q62)) q55y (by unfold evG; omega)⟩⟩
          · replace h15 : (0 : Int) ≠ 0 := (show ¬ ((0 : Int) = 0) from h15)
            exfalso; omega
      · replace h8 : (w 275 3 : Int) = 0 := Classical.not_not.mp (show ¬ ((w 275 3 : Int) ≠ 0) from h8)
        refine e_Ok.ps1 (x := (0, (-2))) (q := 19) 1 rfl ?_
        refine e_Ok.rets rfl rfl ?_
        exact ⟨_, rfl, Or.inl ⟨rfl, fun hc => by first | exact hc.2 (by assumption) | (have h1 := hc.1; omega)⟩⟩
    · replace h6 : (1 : Int) = 0 := Classical.not_not.mp (show ¬ ((1 : Int) ≠ 0) from h6)
      exfalso; omega
  · refine e_Ok.nrm (q := 5) (st' := [(0, 0)]) rfl rfl ?_
    refine e_Ok.if1 rfl (fun h63 => ?_) (fun h63 => ?_)
    · replace h63 : (0 : Int) ≠ 0 := h63
      exfalso; omega
    · replace h63 : (0 : Int) = 0 := Classical.not_not.mp (show ¬ ((0 : Int) ≠ 0) from h63)
      refine e_Ok.ps1 (x := (0, (-1))) (q := 9) 1 rfl ?_
      refine e_Ok.rets rfl rfl ?_
      exact ⟨_, rfl, Or.inl ⟨rfl, fun hc => by first | exact hc.2 (by assumption) | (have h1 := hc.1; omega)⟩⟩
end
end
-- part 9j
section
noncomputable section
theorem e_arm_hd {x a b : Int} {t : Nat} {r : List (Int × Int × Nat)} (h : a ≤ x ∧ x ≤ b) : e_arm x ((a, b, t) :: r) = some t := by
  unfold e_arm
  rw [decide_eq_true h.1, decide_eq_true h.2]
  rfl
theorem e_arm_tl {x a b : Int} {t : Nat} {r : List (Int × Int × Nat)} (h : x < a ∨ b < x) : e_arm x ((a, b, t) :: r) = e_arm x r := by
  rw [e_arm]
  have : (decide (a ≤ x) && decide (x ≤ b)) = false := by
    rcases h with h | h
    · rw [decide_eq_false (by omega : ¬ a ≤ x)]; rfl
    · rw [decide_eq_false (by omega : ¬ x ≤ b), Bool.and_false]
  simp only [this, cond_false]
theorem c_442 {d : Nat} (hd : 23 ≤ d) {w : eW} (hT : e_Has mTy w) (hH : e_Has hTy w) {p1 p2 : Int} (g1 : (-2147483648) ≤ p1 ∧ p1 ≤ 2147483647) (g2 : (-2147483648) ≤ p2 ∧ p2 ≤ 2147483647) : e_Ok 20 elay ecode eI d 442 (0, [(0, (1, 275)), (1, (0, p1)), (2, (0, p2))], [], w) (fun r w' => ∃ z : Int, r = [(0, z)] ∧ w = w') := by
  obtain ⟨d, rfl⟩ : ∃ e, d = e + 1 := ⟨d - 1, by omega⟩
  have hk276 : ∀ i, 0 ≤ i → i ≤ 33059 → -2147483648 ≤ w 276 i ∧ w 276 i ≤ 2147483647 := fun i _ _ => e_Has.now hT i
  refine e_Ok.ps3 (x := (4, 15)) (y := (4, 0)) (z := (4, p1)) (q := 6) 4 rfl ?_
  refine e_Ok.callS rfl (e_dq hd rfl) rfl rfl (c_266) (fun r1 w2 h3 => ?_)
  obtain ⟨z4, rfl, rfl, q5⟩ := h3
  obtain ⟨rfl, q5⟩ | ⟨rfl, q5⟩ := q5
  · refine e_Ok.nrm (q := 9) (st' := [(0, 1)]) rfl rfl ?_
    refine e_Ok.if1 rfl (fun h6 => ?_) (fun h6 => ?_)
    · replace h6 : (1 : Int) = 0 := h6
      exfalso; omega
    · replace h6 : (1 : Int) ≠ 0 := (show ¬ ((1 : Int) = 0) from h6)
      refine e_Ok.ps3 (x := (4, 3)) (y := (4, 0)) (z := (4, p2)) (q := 18) 4 rfl ?_
      refine e_Ok.callS rfl (e_dq hd rfl) rfl rfl (c_266) (fun r7 w8 h9 => ?_)
      obtain ⟨z10, rfl, rfl, q11⟩ := h9
      obtain ⟨rfl, q11⟩ | ⟨rfl, q11⟩ := q11
      · refine e_Ok.nrm (q := 21) (st' := [(0, 1)]) rfl rfl ?_
        refine e_Ok.if1 rfl (fun h12 => ?_) (fun h12 => ?_)
        · replace h12 : (1 : Int) ≠ 0 := h12
          refine e_Ok.ps1 (x := (1, 275)) (q := 27) 1 rfl ?_
          refine e_Ok.getr (z := 276) rfl (el_o rfl) rfl (ef_o rfl) (e_Has.eq hT (mt_o rfl)) ⟨by decide, by decide⟩ ?_
          refine e_Ok.ps1 (x := (0, p1)) (q := 31) 1 rfl ?_
          refine e_Ok.callS rfl (e_dq hd rfl) rfl rfl (c_269 (by omega)) (fun r13 w14 h15 => ?_)
          obtain ⟨rfl, rfl⟩ := h15
          refine e_Ok.nrm (q := 34) (st' := [(0, 1260 * p1 + 416), (1, 276)]) rfl rfl ?_
          refine e_Ok.ps2 (x := (0, 3)) (y := (0, p2)) (q := 36) 2 rfl ?_
          refine e_Ok.if2 rfl (fun h16 => ?_) (fun h16 => ?_)
          · replace h16 : (p2 : Int) ≥ 3 := h16
            refine e_Ok.ps1 (x := (0, 12)) (q := 45) 1 rfl ?_
            refine e_Ok.add (z := 1260 * p1 + 428) rfl (e_adl (by decide)) (by omega) ?_
            have h17 := (e_Has.get hT (c := 276) (k := 1260 * p1 + 428) (lo := 0) (hi := 20) (nR_FRAMES (t := p1) (by omega)) (by decide))
            refine e_Ok.ald (z := w 276 (1260 * p1 + 428)) rfl (el_o rfl) rfl (by omega) rfl (e_bq h17 (by decide) (by decide)) ?_
            refine e_Ok.rets rfl rfl ?_
            exact ⟨_, rfl, rfl⟩
          · replace h16 : (p2 : Int) < 3 := Int.not_le.mp (show ¬ ((p2 : Int) ≥ 3) from h16)
            refine e_Ok.ps1 (x := (0, p2)) (q := 45) 2 rfl ?_
            refine e_Ok.add (z := 1260 * p1 + p2 + 416) rfl (by omega) (by omega) ?_
            have h18 := (hk276 (1260 * p1 + p2 + 416) (by omega) (by omega))
            refine e_Ok.ald (z := w 276 (1260 * p1 + p2 + 416)) rfl (el_o rfl) rfl (by omega) rfl (by omega) ?_
            refine e_Ok.rets rfl rfl ?_
            exact ⟨_, rfl, rfl⟩
        · replace h12 : (1 : Int) = 0 := Classical.not_not.mp (show ¬ ((1 : Int) ≠ 0) from h12)
          exfalso; omega
      · refine e_Ok.nrm (q := 21) (st' := [(0, 0)]) rfl rfl ?_
        refine e_Ok.if1 rfl (fun h19 => ?_) (fun h19 => ?_)
        · replace h19 : (0 : Int) ≠ 0 := h19
          exfalso; omega
        · replace h19 : (0 : Int) = 0 := Classical.not_not.mp (show ¬ ((0 : Int) ≠ 0) from h19)
          refine e_Ok.ps1 (x := (0, (-1))) (q := 25) 1 rfl ?_
          refine e_Ok.rets rfl rfl ?_
          exact ⟨_, rfl, rfl⟩
  · refine e_Ok.nrm (q := 9) (st' := [(0, 0)]) rfl rfl ?_
    refine e_Ok.if1 rfl (fun h20 => ?_) (fun h20 => ?_)
    · replace h20 : (0 : Int) = 0 := h20
      refine e_Ok.ps1 (x := (0, (-1))) (q := 25) 1 rfl ?_
      refine e_Ok.rets rfl rfl ?_
      exact ⟨_, rfl, rfl⟩
    · replace h20 : (0 : Int) ≠ 0 := (show ¬ ((0 : Int) = 0) from h20)
      exfalso; omega
theorem c_447 {d : Nat} (hd : 23 ≤ d) {w : eW} (hT : e_Has mTy w) (hH : e_Has hTy w) {p1 : Int} (g1 : (-2147483648) ≤ p1 ∧ p1 ≤ 2147483647) : e_Ok 20 elay ecode eI d 447 (0, [(0, (1, 275)), (1, (0, p1))], [], w) (fun r w' => ∃ z : Int, r = [(0, z)] ∧ w = w') := by
  obtain ⟨d, rfl⟩ : ∃ e, d = e + 1 := ⟨d - 1, by omega⟩
  have hk276 : ∀ i, 0 ≤ i → i ≤ 33059 → -2147483648 ≤ w 276 i ∧ w 276 i ≤ 2147483647 := fun i _ _ => e_Has.now hT i
  refine e_Ok.ps4 (x := (1, 275)) (y := (0, 3)) (z := (4, 0)) (u := (4, p1)) (q := 5) 5 rfl ?_
  have h1 := (e_Has.get hT (c := 275) (k := 49) (lo := 0) (hi := 8) (mt_o rfl) (by decide))
  refine e_Ok.getf (z := w 275 49) rfl (el_o rfl) rfl (ef_o rfl) rfl (e_bq h1 (by decide) (by decide)) ?_
  refine e_Ok.add (z := w 275 49 + 3) rfl (Int.add_comm _ _) (by omega) ?_
  refine e_Ok.run (t' := (10, [(0, (1, 275)), (1, (0, p1))], [(4, w 275 49 + 3), (4, 0), (4, p1)], w)) 1 rfl ?_
  refine e_Ok.callS rfl (e_dq hd rfl) rfl rfl (c_266) (fun r2 w3 h4 => ?_)
  obtain ⟨z5, rfl, rfl, q6⟩ := h4
  obtain ⟨rfl, q6⟩ | ⟨rfl, q6⟩ := q6
  · refine e_Ok.nrm (q := 13) (st' := [(0, 1)]) rfl rfl ?_
    refine e_Ok.if1 rfl (fun h7 => ?_) (fun h7 => ?_)
    · replace h7 : (1 : Int) ≠ 0 := h7
      refine e_Ok.ps2 (x := (0, 3)) (y := (0, p1)) (q := 20) 2 rfl ?_
      refine e_Ok.if2 rfl (fun h8 => ?_) (fun h8 => ?_)
      · replace h8 : (p1 : Int) ≤ 3 := h8
        refine e_Ok.ps1 (x := (1, 275)) (q := 64) 1 rfl ?_
        refine e_Ok.getr (z := 276) rfl (el_o rfl) rfl (ef_o rfl) (e_Has.eq hT (mt_o rfl)) ⟨by decide, by decide⟩ ?_
        refine e_Ok.ps1 (x := (0, p1)) (q := 68) 1 rfl ?_
        refine e_Ok.if1 rfl (fun h9 => ?_) (fun h9 => ?_)
        · replace h9 : (p1 : Int) ≠ 0 := h9
          refine e_Ok.ps2 (x := (0, 1)) (y := (0, p1)) (q := 77) 2 rfl ?_
          refine e_Ok.if2 rfl (fun h10 => ?_) (fun h10 => ?_)
          · replace h10 : (p1 : Int) ≠ 1 := h10
            refine e_Ok.ps2 (x := (0, 2)) (y := (0, p1)) (q := 86) 2 rfl ?_
            refine e_Ok.if2 rfl (fun h11 => ?_) (fun h11 => ?_)
            · replace h11 : (p1 : Int) ≠ 2 := h11
              refine e_Ok.ps1 (x := (0, 4)) (q := 94) 1 rfl ?_
              have h12 := (e_Has.get hT (c := 276) (k := 4) (lo := 0) (hi := 6000) (mt_o rfl) (by decide))
              refine e_Ok.ald (z := w 276 4) rfl (el_o rfl) rfl (by omega) rfl (e_bq h12 (by decide) (by decide)) ?_
              refine e_Ok.rets rfl rfl ?_
              exact ⟨_, rfl, rfl⟩
            · replace h11 : (p1 : Int) = 2 := Classical.not_not.mp (show ¬ ((p1 : Int) ≠ 2) from h11)
              refine e_Ok.ps1 (x := (0, 3)) (q := 94) 2 rfl ?_
              have h13 := (e_Has.get hT (c := 276) (k := 3) (lo := (-2147483648)) (hi := 2147483647) (mt_o rfl) (by decide))
              refine e_Ok.ald (z := w 276 3) rfl (el_o rfl) rfl (by omega) rfl (e_bq h13 (by decide) (by decide)) ?_
              refine e_Ok.rets rfl rfl ?_
              exact ⟨_, rfl, rfl⟩
          · replace h10 : (p1 : Int) = 1 := Classical.not_not.mp (show ¬ ((p1 : Int) ≠ 1) from h10)
            refine e_Ok.ps1 (x := (0, 2)) (q := 94) 2 rfl ?_
            have h14 := (e_Has.get hT (c := 276) (k := 2) (lo := 0) (hi := 4) (mt_o rfl) (by decide))
            refine e_Ok.ald (z := w 276 2) rfl (el_o rfl) rfl (by omega) rfl (e_bq h14 (by decide) (by decide)) ?_
            refine e_Ok.rets rfl rfl ?_
            exact ⟨_, rfl, rfl⟩
        · replace h9 : (p1 : Int) = 0 := Classical.not_not.mp (show ¬ ((p1 : Int) ≠ 0) from h9)
          refine e_Ok.ps1 (x := (0, 1)) (q := 94) 2 rfl ?_
          have h15 := (e_Has.get hT (c := 276) (k := 1) (lo := 0) (hi := 1) (mt_o rfl) (by decide))
          refine e_Ok.ald (z := w 276 1) rfl (el_o rfl) rfl (by omega) rfl (e_bq h15 (by decide) (by decide)) ?_
          refine e_Ok.rets rfl rfl ?_
          exact ⟨_, rfl, rfl⟩
      · replace h8 : (p1 : Int) > 3 := Int.not_le.mp (show ¬ ((p1 : Int) ≤ 3) from h8)
        refine e_Ok.ps1 (x := (1, 275)) (q := 24) 1 rfl ?_
        refine e_Ok.getr (z := 276) rfl (el_o rfl) rfl (ef_o rfl) (e_Has.eq hT (mt_o rfl)) ⟨by decide, by decide⟩ ?_
        refine e_Ok.ps4 (x := (0, 4)) (y := (0, p1)) (z := (0, 4)) (u := (0, 20836)) (q := 33) 4 rfl ?_
        refine e_Ok.sub' (z := p1 - 4) rfl rfl (by omega) ?_
        refine e_Ok.mul (z := 4 * p1 - 16) rfl (by omega) (by omega) ?_
        refine e_Ok.add (z := 4 * p1 + 20820) rfl (by omega) (by omega) ?_
        refine e_Ok.ps1 (x := (0, 3)) (q := 37) 1 rfl ?_
        refine e_Ok.add (z := 4 * p1 + 20823) rfl (e_adl (by decide)) (by omega) ?_
        have h16 := (hk276 (4 * p1 + 20823) (by omega) (by omega))
        refine e_Ok.ald (z := w 276 (4 * p1 + 20823)) rfl (el_o rfl) rfl (by omega) rfl (by omega) ?_
        refine e_Ok.ps1 (x := (0, 1)) (q := 40) 1 rfl ?_
        refine e_Ok.if2 rfl (fun h17 => ?_) (fun h17 => ?_)
        · replace h17 : (w 276 (4 * p1 + 20823) : Int) ≠ 1 := h17
          refine e_Ok.ps3 (x := (0, 4)) (y := (0, p1)) (z := (1, 275)) (q := 50) 3 rfl ?_
          refine e_Ok.sub' (z := p1 - 4) rfl rfl (by omega) ?_
          refine e_Ok.callV rfl (e_dq hd rfl) rfl rfl rfl rfl (c_399 hT (by omega)) (fun r18 w19 h20 => ?_)
          obtain ⟨z21, rfl, rfl, q22a, q22b⟩ := h20
          refine e_Ok.nrm (q := 54) (st' := [(0, z21)]) rfl rfl ?_
          refine e_Ok.if1 rfl (fun h23 => ?_) (fun h23 => ?_)
          · replace h23 : (z21 : Int) = 0 := h23
            refine e_Ok.ps1 (x := (0, 0)) (q := 62) 1 rfl ?_
            refine e_Ok.rets rfl rfl ?_
            exact ⟨_, rfl, rfl⟩
          · replace h23 : (z21 : Int) ≠ 0 := (show ¬ ((z21 : Int) = 0) from h23)
            refine e_Ok.ps1 (x := (0, 1)) (q := 62) 2 rfl ?_
            refine e_Ok.rets rfl rfl ?_
            exact ⟨_, rfl, rfl⟩
        · replace h17 : (w 276 (4 * p1 + 20823) : Int) = 1 := Classical.not_not.mp (show ¬ ((w 276 (4 * p1 + 20823) : Int) ≠ 1) from h17)
          refine e_Ok.ps1 (x := (0, 2)) (q := 62) 2 rfl ?_
          refine e_Ok.rets rfl rfl ?_
          exact ⟨_, rfl, rfl⟩
    · replace h7 : (1 : Int) = 0 := Classical.not_not.mp (show ¬ ((1 : Int) ≠ 0) from h7)
      exfalso; omega
  · refine e_Ok.nrm (q := 13) (st' := [(0, 0)]) rfl rfl ?_
    refine e_Ok.if1 rfl (fun h24 => ?_) (fun h24 => ?_)
    · replace h24 : (0 : Int) ≠ 0 := h24
      exfalso; omega
    · replace h24 : (0 : Int) = 0 := Classical.not_not.mp (show ¬ ((0 : Int) ≠ 0) from h24)
      refine e_Ok.ps1 (x := (0, (-1))) (q := 17) 1 rfl ?_
      refine e_Ok.rets rfl rfl ?_
      exact ⟨_, rfl, rfl⟩
theorem c_358 {d : Nat} (hd : 23 ≤ d) {w : eW} (hT : e_Has mTy w) (hH : e_Has hTy w) {p1 : Int} (g1 : (-2147483648) ≤ p1 ∧ p1 ≤ 2147483647) : e_Ok 20 elay ecode eI d 358 (0, [(0, (1, 275)), (1, (0, p1))], [], w) (fun r w' => ∃ z : Int, r = [(0, z)] ∧ w = w') := by
  obtain ⟨d, rfl⟩ : ∃ e, d = e + 1 := ⟨d - 1, by omega⟩
  have hk276 : ∀ i, 0 ≤ i → i ≤ 33059 → -2147483648 ≤ w 276 i ∧ w 276 i ≤ 2147483647 := fun i _ _ => e_Has.now hT i
  refine e_Ok.ps1 (x := (1, 275)) (q := 1) 1 rfl ?_
  have h1 := (e_Has.get hH (c := 275) (k := 95) (lo := 0) (hi := 1) rfl (by decide))
  refine e_Ok.getf (z := w 275 95) rfl (el_o rfl) rfl (ef_o rfl) rfl (e_bq h1 (by decide) (by decide)) ?_
  refine e_Ok.if1 rfl (fun h2 => ?_) (fun h2 => ?_)
  · replace h2 : (w 275 95 : Int) = 0 := h2
    refine e_Ok.ps1 (x := (0, (-1))) (q := 36) 2 rfl ?_
    refine e_Ok.rets rfl rfl ?_
    exact ⟨_, rfl, rfl⟩
  · replace h2 : (w 275 95 : Int) ≠ 0 := (show ¬ ((w 275 95 : Int) = 0) from h2)
    refine e_Ok.ps3 (x := (4, 1)) (y := (4, 0)) (z := (4, p1)) (q := 11) 4 rfl ?_
    refine e_Ok.callS rfl (e_dq hd rfl) rfl rfl (c_266) (fun r3 w4 h5 => ?_)
    obtain ⟨z6, rfl, rfl, q7⟩ := h5
    obtain ⟨rfl, q7⟩ | ⟨rfl, q7⟩ := q7
    · refine e_Ok.nrm (q := 14) (st' := [(0, 1)]) rfl rfl ?_
      refine e_Ok.if1 rfl (fun h8 => ?_) (fun h8 => ?_)
      · replace h8 : (1 : Int) ≠ 0 := h8
        refine e_Ok.ps1 (x := (0, p1)) (q := 22) 1 rfl ?_
        refine e_Ok.if1 rfl (fun h9 => ?_) (fun h9 => ?_)
        · replace h9 : (p1 : Int) ≠ 0 := h9
          refine e_Ok.ps1 (x := (1, 275)) (q := 33) 1 rfl ?_
          have h10 := (e_Has.get hH (c := 275) (k := 89) (lo := (-2147483648)) (hi := 2147483647) rfl (by decide))
          refine e_Ok.getf (z := w 275 89) rfl (el_o rfl) rfl (ef_o rfl) rfl (e_bq h10 (by decide) (by decide)) ?_
          refine e_Ok.rets rfl rfl ?_
          exact ⟨_, rfl, rfl⟩
        · replace h9 : (p1 : Int) = 0 := Classical.not_not.mp (show ¬ ((p1 : Int) ≠ 0) from h9)
          refine e_Ok.ps1 (x := (1, 275)) (q := 26) 1 rfl ?_
          have h11 := (e_Has.get hH (c := 275) (k := 88) (lo := 0) (hi := 7) rfl (by decide))
          refine e_Ok.getf (z := w 275 88) rfl (el_o rfl) rfl (ef_o rfl) rfl (e_bq h11 (by decide) (by decide)) ?_
          refine e_Ok.ps0 (q := 36) 1 rfl ?_
          refine e_Ok.rets rfl rfl ?_
          exact ⟨_, rfl, rfl⟩
      · replace h8 : (1 : Int) = 0 := Classical.not_not.mp (show ¬ ((1 : Int) ≠ 0) from h8)
        exfalso; omega
    · refine e_Ok.nrm (q := 14) (st' := [(0, 0)]) rfl rfl ?_
      refine e_Ok.if1 rfl (fun h12 => ?_) (fun h12 => ?_)
      · replace h12 : (0 : Int) ≠ 0 := h12
        exfalso; omega
      · replace h12 : (0 : Int) = 0 := Classical.not_not.mp (show ¬ ((0 : Int) ≠ 0) from h12)
        refine e_Ok.ps1 (x := (0, (-1))) (q := 36) 2 rfl ?_
        refine e_Ok.rets rfl rfl ?_
        exact ⟨_, rfl, rfl⟩
theorem c_450 {d : Nat} (hd : 23 ≤ d) {w : eW} (hT : e_Has mTy w) (hH : e_Has hTy w) {p1 : Int} (g1 : (-2147483648) ≤ p1 ∧ p1 ≤ 2147483647) : e_Ok 20 elay ecode eI d 450 (0, [(0, (1, 275)), (1, (0, p1))], [], w) (fun r w' => ∃ z : Int, r = [(0, z)] ∧ w = w') := by
  have hk276 : ∀ i, 0 ≤ i → i ≤ 33059 → -2147483648 ≤ w 276 i ∧ w 276 i ≤ 2147483647 := fun i _ _ => e_Has.now hT i
  refine e_Ok.ps1 (x := (0, p1)) (q := 1) 1 rfl ?_
  obtain h1 | h1 | h1 | h1 | h1 | h1 | h1 | h1 | h1 | h1 | h1 : (p1 : Int) < 0 ∨ (p1 : Int) = 0 ∨ (p1 : Int) = 1 ∨ (p1 : Int) = 2 ∨ (p1 : Int) = 3 ∨ (p1 : Int) = 4 ∨ (p1 : Int) = 5 ∨ (p1 : Int) = 6 ∨ (p1 : Int) = 7 ∨ (p1 : Int) = 8 ∨ 8 < (p1 : Int) := by omega
  · refine e_Ok.sw (tg := 105) rfl (e_arm_hd (by omega)) ?_
    refine e_Ok.run (t' := (106, [(0, (1, 275)), (1, (0, p1))], [(0, (-1))], w)) 1 rfl ?_
    refine e_Ok.rets rfl rfl ?_
    exact ⟨_, rfl, rfl⟩
  · refine e_Ok.sw (tg := 52) rfl (by rw [e_arm_tl (by omega)]; exact e_arm_hd (by omega)) ?_
    refine e_Ok.run (t' := (53, [(0, (1, 275)), (1, (0, p1))], [(1, 275)], w)) 1 rfl ?_
    have h2 := (e_Has.get hT (c := 275) (k := 10) (lo := 0) (hi := 4) (mt_o rfl) (by decide))
    refine e_Ok.getf (z := w 275 10) rfl (el_o rfl) rfl (ef_o rfl) rfl (e_bq h2 (by decide) (by decide)) ?_
    refine e_Ok.rets rfl rfl ?_
    exact ⟨_, rfl, rfl⟩
  · refine e_Ok.sw (tg := 57) rfl (by rw [e_arm_tl (by omega), e_arm_tl (by omega)]; exact e_arm_hd (by omega)) ?_
    refine e_Ok.run (t' := (58, [(0, (1, 275)), (1, (0, p1))], [(1, 275)], w)) 1 rfl ?_
    have h3 := (e_Has.get hT (c := 275) (k := 23) (lo := 0) (hi := 16) (mt_o rfl) (by decide))
    refine e_Ok.getf (z := w 275 23) rfl (el_o rfl) rfl (ef_o rfl) rfl (e_bq h3 (by decide) (by decide)) ?_
    refine e_Ok.rets rfl rfl ?_
    exact ⟨_, rfl, rfl⟩
  · refine e_Ok.sw (tg := 62) rfl (by rw [e_arm_tl (by omega), e_arm_tl (by omega), e_arm_tl (by omega)]; exact e_arm_hd (by omega)) ?_
    refine e_Ok.run (t' := (63, [(0, (1, 275)), (1, (0, p1))], [(1, 275)], w)) 1 rfl ?_
    have h4 := (e_Has.get hT (c := 275) (k := 30) (lo := 0) (hi := 4) (mt_o rfl) (by decide))
    refine e_Ok.getf (z := w 275 30) rfl (el_o rfl) rfl (ef_o rfl) rfl (e_bq h4 (by decide) (by decide)) ?_
    refine e_Ok.rets rfl rfl ?_
    exact ⟨_, rfl, rfl⟩
  · refine e_Ok.sw (tg := 67) rfl (by rw [e_arm_tl (by omega), e_arm_tl (by omega), e_arm_tl (by omega), e_arm_tl (by omega)]; exact e_arm_hd (by omega)) ?_
    refine e_Ok.run (t' := (68, [(0, (1, 275)), (1, (0, p1))], [(1, 275)], w)) 1 rfl ?_
    have h5 := (e_Has.get hT (c := 275) (k := 40) (lo := 0) (hi := 32) (mt_o rfl) (by decide))
    refine e_Ok.getf (z := w 275 40) rfl (el_o rfl) rfl (ef_o rfl) rfl (e_bq h5 (by decide) (by decide)) ?_
    refine e_Ok.rets rfl rfl ?_
    exact ⟨_, rfl, rfl⟩
  · refine e_Ok.sw (tg := 72) rfl (by rw [e_arm_tl (by omega), e_arm_tl (by omega), e_arm_tl (by omega), e_arm_tl (by omega), e_arm_tl (by omega)]; exact e_arm_hd (by omega)) ?_
    refine e_Ok.run (t' := (73, [(0, (1, 275)), (1, (0, p1))], [(1, 275)], w)) 1 rfl ?_
    have h6 := (e_Has.get hT (c := 275) (k := 42) (lo := 0) (hi := 8) (mt_o rfl) (by decide))
    refine e_Ok.getf (z := w 275 42) rfl (el_o rfl) rfl (ef_o rfl) rfl (e_bq h6 (by decide) (by decide)) ?_
    refine e_Ok.rets rfl rfl ?_
    exact ⟨_, rfl, rfl⟩
  · refine e_Ok.sw (tg := 77) rfl (by rw [e_arm_tl (by omega), e_arm_tl (by omega), e_arm_tl (by omega), e_arm_tl (by omega), e_arm_tl (by omega), e_arm_tl (by omega)]; exact e_arm_hd (by omega)) ?_
    refine e_Ok.run (t' := (78, [(0, (1, 275)), (1, (0, p1))], [(1, 275)], w)) 1 rfl ?_
    have h7 := (e_Has.get hT (c := 275) (k := 49) (lo := 0) (hi := 8) (mt_o rfl) (by decide))
    refine e_Ok.getf (z := w 275 49) rfl (el_o rfl) rfl (ef_o rfl) rfl (e_bq h7 (by decide) (by decide)) ?_
    refine e_Ok.rets rfl rfl ?_
    exact ⟨_, rfl, rfl⟩
  · refine e_Ok.sw (tg := 82) rfl (by rw [e_arm_tl (by omega), e_arm_tl (by omega), e_arm_tl (by omega), e_arm_tl (by omega), e_arm_tl (by omega), e_arm_tl (by omega), e_arm_tl (by omega)]; exact e_arm_hd (by omega)) ?_
    refine e_Ok.run (t' := (83, [(0, (1, 275)), (1, (0, p1))], [(1, 275)], w)) 1 rfl ?_
    have h8 := (e_Has.get hH (c := 275) (k := 5) (lo := 0) (hi := 2000) rfl (by decide))
    refine e_Ok.getf (z := w 275 5) rfl (el_o rfl) rfl (ef_o rfl) rfl (e_bq h8 (by decide) (by decide)) ?_
    refine e_Ok.rets rfl rfl ?_
    exact ⟨_, rfl, rfl⟩
  · refine e_Ok.sw (tg := 87) rfl (by rw [e_arm_tl (by omega), e_arm_tl (by omega), e_arm_tl (by omega), e_arm_tl (by omega), e_arm_tl (by omega), e_arm_tl (by omega), e_arm_tl (by omega), e_arm_tl (by omega)]; exact e_arm_hd (by omega)) ?_
    refine e_Ok.run (t' := (88, [(0, (1, 275)), (1, (0, p1))], [(1, 275)], w)) 1 rfl ?_
    have h9 := (e_Has.get hH (c := 275) (k := 9) (lo := 0) (hi := 4000) rfl (by decide))
    refine e_Ok.getf (z := w 275 9) rfl (el_o rfl) rfl (ef_o rfl) rfl (e_bq h9 (by decide) (by decide)) ?_
    refine e_Ok.rets rfl rfl ?_
    exact ⟨_, rfl, rfl⟩
  · refine e_Ok.sw (tg := 92) rfl (by rw [e_arm_tl (by omega), e_arm_tl (by omega), e_arm_tl (by omega), e_arm_tl (by omega), e_arm_tl (by omega), e_arm_tl (by omega), e_arm_tl (by omega), e_arm_tl (by omega), e_arm_tl (by omega)]; exact e_arm_hd (by omega)) ?_
    refine e_Ok.run (t' := (93, [(0, (1, 275)), (1, (0, p1))], [(1, 275)], w)) 1 rfl ?_
    have h10 := (e_Has.get hT (c := 275) (k := 3) (lo := 0) (hi := 1) (mt_o rfl) (by decide))
    refine e_Ok.getf (z := w 275 3) rfl (el_o rfl) rfl (ef_o rfl) rfl (e_bq h10 (by decide) (by decide)) ?_
    refine e_Ok.if1 rfl (fun h11 => ?_) (fun h11 => ?_)
    · replace h11 : (w 275 3 : Int) = 0 := h11
      refine e_Ok.ps1 (x := (0, 0)) (q := 104) 1 rfl ?_
      refine e_Ok.rets rfl rfl ?_
      exact ⟨_, rfl, rfl⟩
    · replace h11 : (w 275 3 : Int) ≠ 0 := (show ¬ ((w 275 3 : Int) = 0) from h11)
      refine e_Ok.ps1 (x := (0, 1)) (q := 104) 2 rfl ?_
      refine e_Ok.rets rfl rfl ?_
      exact ⟨_, rfl, rfl⟩
  · refine e_Ok.sw (tg := 105) rfl (by rw [e_arm_tl (by omega), e_arm_tl (by omega), e_arm_tl (by omega), e_arm_tl (by omega), e_arm_tl (by omega), e_arm_tl (by omega), e_arm_tl (by omega), e_arm_tl (by omega), e_arm_tl (by omega), e_arm_tl (by omega)]; exact e_arm_hd (by omega)) ?_
    refine e_Ok.run (t' := (106, [(0, (1, 275)), (1, (0, p1))], [(0, (-1))], w)) 1 rfl ?_
    refine e_Ok.rets rfl rfl ?_
    exact ⟨_, rfl, rfl⟩
theorem c_446 {d : Nat} (hd : 27 ≤ d) {w : eW} (hT : e_Has mTy w) (hH : e_Has hTy w) {p1 p2 : Int} (g1 : (-2147483648) ≤ p1 ∧ p1 ≤ 2147483647) (g2 : (-2147483648) ≤ p2 ∧ p2 ≤ 2147483647) : e_Ok 20 elay ecode eI d 446 (0, [(0, (1, 275)), (1, (0, p1)), (2, (0, p2))], [], w) (fun r w' => ∃ z : Int, r = [(0, z)] ∧ e_fr mP w w') := by
  obtain ⟨d, rfl⟩ : ∃ e, d = e + 1 := ⟨d - 1, by omega⟩
  have hk276 : ∀ i, 0 ≤ i → i ≤ 33059 → -2147483648 ≤ w 276 i ∧ w 276 i ≤ 2147483647 := fun i _ _ => e_Has.now hT i
  refine e_Ok.ps3 (x := (1, 275)) (y := (4, 0)) (z := (4, p1)) (q := 4) 4 rfl ?_
  have h1 := (e_Has.get hT (c := 275) (k := 40) (lo := 0) (hi := 32) (mt_o rfl) (by decide))
  refine e_Ok.getf (z := w 275 40) rfl (el_o rfl) rfl (ef_o rfl) rfl (e_bq h1 (by decide) (by decide)) ?_
  refine e_Ok.ps1 (x := (0, 1)) (q := 8) 1 rfl ?_
  refine e_Ok.sub' (z := w 275 40 - 1) rfl rfl (by omega) ?_
  refine e_Ok.run (t' := (10, [(0, (1, 275)), (1, (0, p1)), (2, (0, p2))], [(4, w 275 40 - 1), (4, 0), (4, p1)], w)) 1 rfl ?_
  refine e_Ok.callS rfl (e_dq hd rfl) rfl rfl (c_266) (fun r2 w3 h4 => ?_)
  obtain ⟨z5, rfl, rfl, q6⟩ := h4
  obtain ⟨rfl, q6⟩ | ⟨rfl, q6⟩ := q6
  · refine e_Ok.nrm (q := 13) (st' := [(0, 1)]) rfl rfl ?_
    refine e_Ok.if1 rfl (fun h7 => ?_) (fun h7 => ?_)
    · replace h7 : (1 : Int) = 0 := h7
      exfalso; omega
    · replace h7 : (1 : Int) ≠ 0 := (show ¬ ((1 : Int) = 0) from h7)
      refine e_Ok.ps3 (x := (4, 3)) (y := (4, 0)) (z := (4, p2)) (q := 22) 4 rfl ?_
      refine e_Ok.callS rfl (e_dq hd rfl) rfl rfl (c_266) (fun r8 w9 h10 => ?_)
      obtain ⟨z11, rfl, rfl, q12⟩ := h10
      obtain ⟨rfl, q12⟩ | ⟨rfl, q12⟩ := q12
      · refine e_Ok.nrm (q := 25) (st' := [(0, 1)]) rfl rfl ?_
        refine e_Ok.if1 rfl (fun h13 => ?_) (fun h13 => ?_)
        · replace h13 : (1 : Int) ≠ 0 := h13
          refine e_Ok.ps1 (x := (0, p2)) (q := 31) 1 rfl ?_
          refine e_Ok.if1 rfl (fun h14 => ?_) (fun h14 => ?_)
          · replace h14 : (p2 : Int) = 0 := h14
            refine e_Ok.ps1 (x := (1, 275)) (q := 40) 1 rfl ?_
            refine e_Ok.getr (z := 276) rfl (el_o rfl) rfl (ef_o rfl) (e_Has.eq hT (mt_o rfl)) ⟨by decide, by decide⟩ ?_
            refine e_Ok.ps1 (x := (0, p1)) (q := 44) 1 rfl ?_
            refine e_Ok.callS rfl (e_dq hd rfl) rfl rfl (c_392 (by omega)) (fun r15 w16 h17 => ?_)
            obtain ⟨rfl, rfl⟩ := h17
            refine e_Ok.nrm (q := 47) (st' := [(0, 4 * p1 + 20576), (1, 276)]) rfl rfl ?_
            refine e_Ok.ps1 (x := (0, p2)) (q := 48) 1 rfl ?_
            refine e_Ok.add (z := 4 * p1 + p2 + 20576) rfl (by omega) (by omega) ?_
            have h18 := (hk276 (4 * p1 + p2 + 20576) (by omega) (by omega))
            refine e_Ok.ald (z := w 276 (4 * p1 + p2 + 20576)) rfl (el_o rfl) rfl (by omega) rfl (by omega) ?_
            refine e_Ok.ps0 (q := 61) 1 rfl ?_
            refine e_Ok.rets rfl rfl ?_
            exact ⟨_, rfl, (e_fr.refl w)⟩
          · replace h14 : (p2 : Int) ≠ 0 := (show ¬ ((p2 : Int) = 0) from h14)
            refine e_Ok.ps2 (x := (0, 3)) (y := (0, p2)) (q := 36) 2 rfl ?_
            refine e_Ok.if2 rfl (fun h19 => ?_) (fun h19 => ?_)
            · replace h19 : (p2 : Int) ≠ 3 := h19
              refine e_Ok.ps4 (x := (0, 1)) (y := (0, p2)) (z := (0, p1)) (u := (1, 275)) (q := 57) 4 rfl ?_
              refine e_Ok.sub' (z := p2 - 1) rfl rfl (by omega) ?_
              refine e_Ok.callV rfl (e_dq hd rfl) rfl rfl rfl rfl (c_395 (e_dq hd rfl) hT (by omega) (by omega)) (fun r20 w21 h22 => ?_)
              obtain ⟨z24, rfl, q23, q23a, q23b⟩ := h22
              refine e_Ok.nrm (q := 61) (st' := [(0, z24)]) rfl rfl ?_
              refine e_Ok.rets rfl rfl ?_
              exact ⟨_, rfl, (show e_fr mP w w21 from e_fr.trans (e_fr.refl w) (e_fr.mono q23 (fun c k q => by exact q)))⟩
            · replace h19 : (p2 : Int) = 3 := Classical.not_not.mp (show ¬ ((p2 : Int) ≠ 3) from h19)
              refine e_Ok.ps1 (x := (1, 275)) (q := 40) 1 rfl ?_
              refine e_Ok.getr (z := 276) rfl (el_o rfl) rfl (ef_o rfl) (e_Has.eq hT (mt_o rfl)) ⟨by decide, by decide⟩ ?_
              refine e_Ok.ps1 (x := (0, p1)) (q := 44) 1 rfl ?_
              refine e_Ok.callS rfl (e_dq hd rfl) rfl rfl (c_392 (by omega)) (fun r26 w27 h28 => ?_)
              obtain ⟨rfl, rfl⟩ := h28
              refine e_Ok.nrm (q := 47) (st' := [(0, 4 * p1 + 20576), (1, 276)]) rfl rfl ?_
              refine e_Ok.ps1 (x := (0, p2)) (q := 48) 1 rfl ?_
              refine e_Ok.add (z := 4 * p1 + p2 + 20576) rfl (by omega) (by omega) ?_
              have h29 := (hk276 (4 * p1 + p2 + 20576) (by omega) (by omega))
              refine e_Ok.ald (z := w 276 (4 * p1 + p2 + 20576)) rfl (el_o rfl) rfl (by omega) rfl (by omega) ?_
              refine e_Ok.ps0 (q := 61) 1 rfl ?_
              refine e_Ok.rets rfl rfl ?_
              exact ⟨_, rfl, (e_fr.refl w)⟩
        · replace h13 : (1 : Int) = 0 := Classical.not_not.mp (show ¬ ((1 : Int) ≠ 0) from h13)
          exfalso; omega
      · refine e_Ok.nrm (q := 25) (st' := [(0, 0)]) rfl rfl ?_
        refine e_Ok.if1 rfl (fun h30 => ?_) (fun h30 => ?_)
        · replace h30 : (0 : Int) ≠ 0 := h30
          exfalso; omega
        · replace h30 : (0 : Int) = 0 := Classical.not_not.mp (show ¬ ((0 : Int) ≠ 0) from h30)
          refine e_Ok.ps1 (x := (0, (-1))) (q := 29) 1 rfl ?_
          refine e_Ok.rets rfl rfl ?_
          exact ⟨_, rfl, (e_fr.refl w)⟩
  · refine e_Ok.nrm (q := 13) (st' := [(0, 0)]) rfl rfl ?_
    refine e_Ok.if1 rfl (fun h31 => ?_) (fun h31 => ?_)
    · replace h31 : (0 : Int) = 0 := h31
      refine e_Ok.ps1 (x := (0, (-1))) (q := 29) 1 rfl ?_
      refine e_Ok.rets rfl rfl ?_
      exact ⟨_, rfl, (e_fr.refl w)⟩
    · replace h31 : (0 : Int) ≠ 0 := (show ¬ ((0 : Int) = 0) from h31)
      exfalso; omega
end
end
-- part 9k
section
noncomputable section
theorem mInv.fld {w w' : eW} {G : Int → Gh} {c k z : Int} (h : mInv w G) (hw : e_up w c k z = w') (hT : e_Has mTy w') (hk : (c = 275 ∧ k ≠ 10 ∧ k ≠ 40 ∧ k ≠ 42) ∨ c = 277) : mInv w' G := by
  have h0 := h
  obtain ⟨t1, -, -, -, -, h6, h7, h8, h9⟩ := h0
  have hp := e_Has.get t1 (c := 275) (k := 40) (lo := 0) (hi := 32) rfl (by decide)
  have hF : e_fr (fun c' k' => c' = c ∧ k' = k) w w' := fun c' k' q => by rw [← hw]; exact e_up_ne _ _ (by omega)
  exact h.next hF hT (fun c' k' q => by unfold cfN; omega) (mMo.same h6 (e_Has.mo t1) (fun c' k' q => hF c' k' (fun q1 => by unfold moK at q; omega))) (mOr.fr h7 hp.2 (e_Has.orn t1) (e_Has.orw t1 hp.2) (fun k' q => hF _ _ (fun q1 => by omega))) (fun v v1 v2 => tkOk.hop h8 (h9 v v1 v2) hF (fun c' k' q => ⟨by omega, fun e => by omega⟩))
def mOp (c k : Int) : Prop := (c = 275 ∧ (k = 3 ∨ k = 5)) ∨ mK c k ∨ c = 277
theorem no_9k_0 : ¬ mOp 275 10 := by unfold mOp mK; omega
theorem no_9k_1 {k : Int} : ¬ mK 275 k := by unfold mK; omega
theorem no_9k_2 : ¬ mOp 275 1 := by unfold mOp mK; omega
theorem no_9k_3 : ¬ mOp 275 0 := by unfold mOp mK; omega
set_option maxHeartbeats 4000000 in
theorem c_296 {d : Nat} (hd : 25 ≤ d) {w : eW} {G : Int → Gh} (hI : mInv w G) : e_Ok 20 elay ecode eI d 296 (0, [(0, (1, 275))], [], w) (fun r w' => ∃ z : Int, r = [(0, z)] ∧ ((w = w' ∧ w 275 3 ≠ 0) ∨ (w 275 3 = 0 ∧ w' 275 3 = 1 ∧ w' 275 5 = 0 ∧ mInv w' G ∧ e_fr mOp w w' ∧ ∀ k, 0 ≤ k → k < 33060 → w' 277 k = w' 276 k))) := by
  obtain ⟨d, rfl⟩ : ∃ e, d = e + 1 := ⟨d - 1, by omega⟩
  refine e_Ok.ps1 (x := (1, 275)) (q := 1) 1 rfl ?_
  have h1 := (e_Has.get hI.1 (c := 275) (k := 3) (lo := 0) (hi := 1) rfl (by decide))
  refine e_Ok.getf (z := w 275 3) rfl (el_o rfl) rfl (ef_o rfl) rfl (e_bq h1 (by decide) (by decide)) ?_
  refine e_Ok.if1 rfl (fun h2 => ?_) (fun h2 => ?_)
  · replace h2 : (w 275 3 : Int) = 0 := h2
    refine e_Ok.ps2 (x := (0, 1)) (y := (1, 275)) (q := 12) 2 rfl ?_
    refine e_Ok.putb rfl (el_o rfl) rfl (ef_o rfl) (by omega) ?_
    generalize hw3 : e_up w 275 3 1 = w3
    have hT5 : e_Has mTy w3 := e_Has.upr hI.1 hw3 rfl (by omega)
    refine e_Ok.ps2 (x := (0, 0)) (y := (1, 275)) (q := 17) 2 rfl ?_
    refine e_Ok.putf rfl (el_o rfl) rfl (ef_o rfl) ?_
    generalize hw6 : e_up w3 275 5 0 = w6
    have hT8 : e_Has mTy w6 := e_Has.ups hT5 hw6 (mt_o rfl)
    have hI9 : mInv w6 G := mInv.fld (mInv.fld hI hw3 hT5 (by decide)) hw6 hT8 (by decide)
    refine e_Ok.ps1 (x := (1, 275)) (q := 21) 1 rfl ?_
    refine e_Ok.callV rfl (e_dq hd rfl) rfl rfl rfl rfl (c_303 (e_dq hd rfl) hT8) (fun r10 w11 h12 => ?_)
    obtain ⟨rfl, q13, q13T⟩ := h12
    have hI15 : mInv w11 G := mInv.same hI9 q13 q13T (fun c k q => ti_k q)
    refine e_Ok.nrm (q := 24) (st' := []) rfl rfl ?_
    refine e_Ok.run (t' := (26, [(1, (0, 0)), (0, (1, 275))], [], w11)) 2 rfl ?_
    have hL16 : ∀ (nn : Nat) (y1 : Int) (v1 : eW), e_fr mOp w v1 ∧ e_Has mTy v1 ∧ (0 ≤ y1 ∧ y1 ≤ 33060) ∧ (∀ j, 0 ≤ j → j < y1 → v1 277 j = w11 276 j) ∧ e_fr (fun c _k => c = 277) w11 v1 ∧ mInv v1 G → 33061 - y1 < nn → e_Ok 20 elay ecode eI (d + 1) 296 (26, [(0, (1, 275)), (1, (0, y1))], [], v1) (fun r w' => ∃ z : Int, r = [(0, z)] ∧ ((w = w' ∧ w 275 3 ≠ 0) ∨ (w 275 3 = 0 ∧ w' 275 3 = 1 ∧ w' 275 5 = 0 ∧ mInv w' G ∧ e_fr mOp w w' ∧ ∀ k, 0 ≤ k → k < 33060 → w' 277 k = w' 276 k))) := by
      intro nn
      induction nn with
      | zero => intro y1 v1 hj hm; obtain ⟨j18, j19, j20, j21, j22, j23⟩ := hj; exfalso; omega
      | succ nn ih17 =>
        intro y1 v1 hj hm
        obtain ⟨j18, j19, j20, j21, j22, j23⟩ := hj
        refine e_Ok.run (t' := (29, [(0, (1, 275)), (1, (0, y1))], [(0, 33060), (0, y1)], v1)) 2 rfl ?_
        refine e_Ok.if2 rfl (fun h24 => ?_) (fun h24 => ?_)
        · replace h24 : (y1 : Int) ≥ 33060 := h24
          refine e_Ok.ps1 (x := (1, 275)) (q := 51) 1 rfl ?_
          have h25 := (e_Has.get hI.1 (c := 275) (k := 10) (lo := 0) (hi := 4) rfl (by decide))
          refine e_Ok.getf (z := w 275 10) rfl (el_o rfl) rfl (ef_o rfl) ((j18 275 10 no_9k_0).trans rfl) (e_bq h25 (by decide) (by decide)) ?_
          refine e_Ok.rets rfl rfl ?_
          exact ⟨_, rfl, Or.inr ⟨by omega, (Eq.trans (j22 275 3 (by decide)) ((q13 275 3 no_9k_1).trans (e_uq hw6 (Or.inr (by first | decide | omega)) (e_ue hw3)))), (Eq.trans (j22 275 5 (by decide)) ((q13 275 5 no_9k_1).trans (e_ue hw6))), j23, j18, fun k g1 g2 => Eq.trans (j21 k g1 (by omega)) (Eq.symm (j22 276 k (show ¬ (276 : Int) = 277 by decide)))⟩⟩
        · replace h24 : (y1 : Int) < 33060 := Int.not_le.mp (show ¬ ((y1 : Int) ≥ 33060) from h24)
          refine e_Ok.ps1 (x := (1, 275)) (q := 33) 1 rfl ?_
          refine e_Ok.getr (z := 277) rfl (el_o rfl) rfl (ef_o rfl) ((j18 275 1 no_9k_2).trans (e_Has.eq hI.1 rfl)) ⟨by decide, by decide⟩ ?_
          refine e_Ok.ps2 (x := (1, 275)) (y := (0, y1)) (q := 38) 2 rfl ?_
          refine e_Ok.getr (z := 276) rfl (el_o rfl) rfl (ef_o rfl) ((j18 275 0 no_9k_3).trans (e_Has.eq hI.1 rfl)) ⟨by decide, by decide⟩ ?_
          refine e_Ok.ps1 (x := (0, y1)) (q := 42) 1 rfl ?_
          have h26 := (e_Has.now j19 y1)
          refine e_Ok.ald (z := v1 276 y1) rfl (el_o rfl) rfl (by omega) rfl (by omega) ?_
          refine e_Ok.ast rfl (el_o rfl) rfl rfl (by omega) ?_
          generalize hw27 : e_up v1 277 y1 (v1 276 y1) = w27
          have hT29 : e_Has mTy w27 := e_Has.ups j19 hw27 rfl
          refine e_Ok.inc (z := y1 + 1) rfl rfl (by first | with_reducible rfl | omega) (by omega) ?_
          show e_Ok 20 elay ecode eI (d + 1) 296 (47, [(1, (0, y1 + 1)), (0, (1, 275))], [], w27) _
          refine e_Ok.ps0 (q := 26) 1 rfl ?_
          refine e_Ok.sub eAlk (e_sub_of rfl ?_) (ih17 (y1 + 1) w27 ⟨(show e_fr mOp w w27 from e_fr.up j18 hw27 (by first | exact Or.inr (Or.inr rfl) | (unfold mOp mK; omega))), hT29, by omega, (fun j g1 g2 => Decidable.byCases (p := j = y1) (fun e => by rw [e, ← hw27, e_up_eq]; exact j22 276 y1 (show ¬ (276 : Int) = 277 by decide)) (fun e => Eq.trans (show w27 277 j = v1 277 j from by rw [← hw27]; exact e_up_ne _ _ (Or.inr e)) (j21 j g1 (by omega)))), (e_fr.up j22 hw27 rfl), (mInv.fld j23 hw27 hT29 (Or.inr rfl))⟩ (by omega))
          exact ⟨rfl, rfl, trivial⟩
    refine e_Ok.sub eAlk (e_sub_of rfl ?_) (hL16 (33061 + 1 : Int).toNat 0 w11 ⟨(show e_fr mOp w w11 from e_fr.trans (show e_fr mOp w w6 from e_fr.up (show e_fr mOp w w3 from e_fr.up (e_fr.refl w) hw3 (by first | exact Or.inl ⟨rfl, Or.inl rfl⟩ | (unfold mOp mK; omega))) hw6 (by first | exact Or.inl ⟨rfl, Or.inr rfl⟩ | (unfold mOp mK; omega))) (e_fr.mono q13 (fun c k q => by exact Or.inr (Or.inl q)))), q13T, by omega, (fun j g1 g2 => by omega), (e_fr.refl w11), hI15⟩ (by omega))
    exact ⟨rfl, rfl, trivial⟩
  · replace h2 : (w 275 3 : Int) ≠ 0 := (show ¬ ((w 275 3 : Int) = 0) from h2)
    refine e_Ok.ps1 (x := (0, (-2))) (q := 9) 1 rfl ?_
    refine e_Ok.rets rfl rfl ?_
    exact ⟨_, rfl, Or.inl ⟨rfl, by omega⟩⟩
end
end
-- part 9l
section
noncomputable section
theorem nowZ (k : Int) : (nowR k).1 ≤ 0 ∧ 0 ≤ (nowR k).2 := by
  have hi : ∀ {c : Prop} [Decidable c] {a b : Int × Int}, (c → a.1 ≤ 0 ∧ 0 ≤ a.2) → (¬ c → b.1 ≤ 0 ∧ 0 ≤ b.2) → (if c then a else b).1 ≤ 0 ∧ 0 ≤ (if c then a else b).2 := fun {c} _ {a b} ha hb => by
    by_cases h : c
    · rw [if_pos h]; exact ha h
    · rw [if_neg h]; exact hb h
  have hn : ∀ {l : List (Int × Int)} (_ : ∀ x ∈ l, x.1 ≤ 0 ∧ 0 ≤ x.2) {k : Nat} (_ : k < l.length), (x_nthP l k).1 ≤ 0 ∧ 0 ≤ (x_nthP l k).2 := fun {l} h k hk => by
    unfold x_nthP
    rw [x_at_eq]
    rw [List.getElem?_eq_getElem hk]
    exact h _ (List.getElem_mem hk)
  have h0 : ∀ x ∈ nHead, x.1 ≤ 0 ∧ 0 ≤ x.2 := by decide +kernel
  have h1 : ∀ x ∈ nArm, x.1 ≤ 0 ∧ 0 ≤ x.2 := by decide +kernel
  have e0 : nHead.length = 16 := by decide +kernel
  have e1 : nArm.length = 36 := by decide +kernel
  have ha : (((-2147483648, 2147483647) : Int × Int)).1 ≤ 0 ∧ 0 ≤ (((-2147483648, 2147483647) : Int × Int)).2 := by decide
  have ht : ∀ f, (nTask f).1 ≤ 0 ∧ 0 ≤ (nTask f).2 := fun f => by
    refine hi (fun q => hn ?_ ?_) (fun _ => hi (fun _ => hi (fun _ => ?_) (fun _ => ?_)) (fun _ => ha))
    · decide +kernel
    · show f.toNat < 20; omega
    · decide
    · decide
  refine hi (fun q => hn h0 (by rw [e0]; omega)) (fun _ => hi (fun q => hn h1 (by rw [e1]; omega)) (fun _ => hi (fun _ => ha) (fun _ => hi (fun _ => ?_) (fun _ => hi (fun _ => ha) (fun _ => hi (fun _ => ht _) (fun _ => hi (fun _ => hi (fun _ => ?_) (fun _ => ha)) (fun _ => hi (fun _ => hi (fun _ => ?_) (fun _ => ?_)) (fun _ => hi (fun _ => hi (fun _ => ha) (fun _ => ?_)) (fun _ => hi (fun _ => ?_) (fun _ => hi (fun _ => ha) (fun _ => hi (fun _ => ?_) (fun _ => ha)))))))))))) <;> decide
theorem e_Has.zero {w w' : eW} {k : Int} (h : e_Has mTy w) (hw : e_up w 276 k 0 = w') : e_Has mTy w' := h.up hw (fun _ => nowZ k)
def rF (v : eW) : Prop := v 275 3 = 0 ∧ v 275 10 = 0 ∧ v 275 23 = 0 ∧ v 275 30 = 0 ∧ v 275 40 = 0 ∧ v 275 42 = 0 ∧ v 275 49 = 0 ∧ v 275 5 = 0
theorem rF.up {v v' : eW} {c k z : Int} (h : rF v) (hw : e_up v c k z = v') (hc : c ≠ 275) : rF v' := by
  have e : ∀ k', v' 275 k' = v 275 k' := fun k' => by rw [← hw]; exact e_up_ne _ _ (Or.inl (fun q => hc q.symm))
  unfold rF
  rw [e, e, e, e, e, e, e, e]
  exact h
def mRa (c k : Int) : Prop := (c = 276 ∧ 16 ≤ k ∧ k < 160 ∧ ((k - 16) % 36 = 1 ∨ (k - 16) % 36 = 2 ∨ (k - 16) % 36 = 3 ∨ (k - 16) % 36 = 9)) ∨ c = 286 ∨ c = 306 ∨ c = 280 ∨ c = 338 ∨ c = 339 ∨ c = 340
def mRb (c k : Int) : Prop := c = 276 ∧ 416 ≤ k ∧ k < 20576 ∧ (k - 416) % 1260 = 1
def mRc (c k : Int) : Prop := c = 317 ∨ (c = 276 ∧ 20836 ≤ k ∧ k < 20876)
def mRd (c _k : Int) : Prop := c = 318
def mRe (c _k : Int) : Prop := c = 299
/-- a new cell -/
def newOk (w : eW) : Prop := rF w ∧ (∀ a, 0 ≤ a → a < 4 → w 286 a = 0 ∧ w 338 a = 0 ∧ w 276 (36 * a + 17) = -1) ∧ (∀ p, 0 ≤ p → p < 64 → w 318 p = -1) ∧ (∀ k, 0 ≤ k → k < 33060 → ¬ mRa 276 k → ¬ mRb 276 k → ¬ mRc 276 k → w 276 k = 0)
theorem no_9l_0 {k : Int} : ¬ mRe 286 k := by unfold mRe; omega
theorem no_9l_1 {k : Int} : ¬ mRd 286 k := by unfold mRd; omega
theorem no_9l_2 {k : Int} : ¬ mRc 286 k := by unfold mRc; omega
theorem no_9l_3 {k : Int} : ¬ mRb 286 k := by unfold mRb; omega
theorem no_9l_4 {k : Int} : ¬ mRe 338 k := by unfold mRe; omega
theorem no_9l_5 {k : Int} : ¬ mRd 338 k := by unfold mRd; omega
theorem no_9l_6 {k : Int} : ¬ mRc 338 k := by unfold mRc; omega
theorem no_9l_7 {k : Int} : ¬ mRb 338 k := by unfold mRb; omega
theorem no_9l_8 {k : Int} : ¬ mRe 276 k := by unfold mRe; omega
theorem no_9l_9 {k : Int} : ¬ mRd 276 k := by unfold mRd; omega
theorem no_9l_10 {a : Int} (ha : 0 ≤ a ∧ a ≤ 3) : ¬ mRc 276 (36 * a + 17) := by unfold mRc; omega
theorem no_9l_11 {a : Int} (ha : 0 ≤ a ∧ a ≤ 3) : ¬ mRb 276 (36 * a + 17) := by unfold mRb; omega
theorem no_9l_12 {k : Int} : ¬ mRe 318 k := by unfold mRe; omega
set_option maxHeartbeats 4000000 in
theorem c_267 {d : Nat} (hd : 21 ≤ d) {w : eW} (hT : e_Has mTy w) : e_Ok 20 elay ecode eI d 267 (0, [(0, (1, 275))], [], w) (fun r w' => r = [] ∧ e_Has mTy w' ∧ newOk w') := by
  obtain ⟨d, rfl⟩ : ∃ e, d = e + 1 := ⟨d - 1, by omega⟩
  refine e_Ok.ps2 (x := (0, 0)) (y := (1, 275)) (q := 2) 2 rfl ?_
  refine e_Ok.putb rfl (el_o rfl) rfl (ef_o rfl) (by omega) ?_
  generalize hw1 : e_up w 275 3 0 = w1
  have hT2 : e_Has mTy w1 := e_Has.upr hT hw1 (mt_o rfl) (by omega)
  refine e_Ok.ps2 (x := (0, 0)) (y := (1, 275)) (q := 7) 2 rfl ?_
  refine e_Ok.putf rfl (el_o rfl) rfl (ef_o rfl) ?_
  generalize hw3 : e_up w1 275 10 0 = w3
  have hT4 : e_Has mTy w3 := e_Has.upr hT2 hw3 (mt_o rfl) (by omega)
  refine e_Ok.ps2 (x := (0, 0)) (y := (1, 275)) (q := 12) 2 rfl ?_
  refine e_Ok.putf rfl (el_o rfl) rfl (ef_o rfl) ?_
  generalize hw5 : e_up w3 275 23 0 = w5
  have hT6 : e_Has mTy w5 := e_Has.upr hT4 hw5 (mt_o rfl) (by omega)
  refine e_Ok.ps2 (x := (0, 0)) (y := (1, 275)) (q := 17) 2 rfl ?_
  refine e_Ok.putf rfl (el_o rfl) rfl (ef_o rfl) ?_
  generalize hw7 : e_up w5 275 30 0 = w7
  have hT8 : e_Has mTy w7 := e_Has.upr hT6 hw7 (mt_o rfl) (by omega)
  refine e_Ok.ps2 (x := (0, 0)) (y := (1, 275)) (q := 22) 2 rfl ?_
  refine e_Ok.putf rfl (el_o rfl) rfl (ef_o rfl) ?_
  generalize hw9 : e_up w7 275 40 0 = w9
  have hT10 : e_Has mTy w9 := e_Has.upr hT8 hw9 (mt_o rfl) (by omega)
  refine e_Ok.ps2 (x := (0, 0)) (y := (1, 275)) (q := 27) 2 rfl ?_
  refine e_Ok.putf rfl (el_o rfl) rfl (ef_o rfl) ?_
  generalize hw11 : e_up w9 275 42 0 = w11
  have hT12 : e_Has mTy w11 := e_Has.upr hT10 hw11 (mt_o rfl) (by omega)
  refine e_Ok.ps2 (x := (0, 0)) (y := (1, 275)) (q := 32) 2 rfl ?_
  refine e_Ok.putf rfl (el_o rfl) rfl (ef_o rfl) ?_
  generalize hw13 : e_up w11 275 49 0 = w13
  have hT14 : e_Has mTy w13 := e_Has.upr hT12 hw13 (mt_o rfl) (by omega)
  refine e_Ok.ps2 (x := (0, 0)) (y := (1, 275)) (q := 37) 2 rfl ?_
  refine e_Ok.putf rfl (el_o rfl) rfl (ef_o rfl) ?_
  generalize hw15 : e_up w13 275 5 0 = w15
  have hT16 : e_Has mTy w15 := e_Has.ups hT14 hw15 (mt_o rfl)
  refine e_Ok.ps2 (x := (0, 0)) (y := (1, 275)) (q := 42) 2 rfl ?_
  refine e_Ok.putf rfl (el_o rfl) rfl (ef_o rfl) ?_
  generalize hw17 : e_up w15 275 118 0 = w17
  have hT18 : e_Has mTy w17 := e_Has.ups hT16 hw17 (mt_o rfl)
  refine e_Ok.run (t' := (47, [(1, (0, 0)), (0, (1, 275))], [], w17)) 2 rfl ?_
  have hL19 : ∀ (nn : Nat) (y1 : Int) (v1 : eW), e_Has mTy v1 ∧ rF v1 ∧ (0 ≤ y1 ∧ y1 ≤ 33060) ∧ (∀ k, 0 ≤ k → k < y1 → v1 276 k = 0) → 33061 - y1 < nn → e_Ok 20 elay ecode eI (d + 1) 267 (47, [(0, (1, 275)), (1, (0, y1))], [], v1) (fun r w' => r = [] ∧ e_Has mTy w' ∧ newOk w') := by
    intro nn
    induction nn with
    | zero => intro y1 v1 hj hm; obtain ⟨j21, j22, j23, j24⟩ := hj; exfalso; omega
    | succ nn ih20 =>
      intro y1 v1 hj hm
      obtain ⟨j21, j22, j23, j24⟩ := hj
      refine e_Ok.run (t' := (50, [(0, (1, 275)), (1, (0, y1))], [(0, 33060), (0, y1)], v1)) 2 rfl ?_
      refine e_Ok.if2 rfl (fun h25 => ?_) (fun h25 => ?_)
      · replace h25 : (y1 : Int) ≥ 33060 := h25
        refine e_Ok.run (t' := (68, [(1, (0, 0)), (0, (1, 275))], [], v1)) 2 rfl ?_
        have hL26 : ∀ (nn : Nat) (y2 : Int) (v2 : eW), e_Has mTy v2 ∧ rF v2 ∧ (0 ≤ y2 ∧ y2 ≤ 4) ∧ e_fr mRa v1 v2 ∧ (∀ a, 0 ≤ a → a < y2 → v2 286 a = 0 ∧ v2 338 a = 0 ∧ v2 276 (36 * a + 17) = -1) → 5 - y2 < nn → e_Ok 20 elay ecode eI (d + 1) 267 (68, [(0, (1, 275)), (1, (0, y2))], [], v2) (fun r w' => r = [] ∧ e_Has mTy w' ∧ newOk w') := by
          intro nn
          induction nn with
          | zero => intro y2 v2 hj hm; obtain ⟨j28, j29, j30, j31, j32⟩ := hj; exfalso; omega
          | succ nn ih27 =>
            intro y2 v2 hj hm
            obtain ⟨j28, j29, j30, j31, j32⟩ := hj
            refine e_Ok.run (t' := (70, [(0, (1, 275)), (1, (0, y2))], [(0, 4), (0, y2)], v2)) 2 rfl ?_
            refine e_Ok.if2 rfl (fun h33 => ?_) (fun h33 => ?_)
            · replace h33 : (y2 : Int) ≥ 4 := h33
              refine e_Ok.run (t' := (172, [(1, (0, 0)), (0, (1, 275))], [], v2)) 2 rfl ?_
              have hL34 : ∀ (nn : Nat) (y3 : Int) (v3 : eW), e_Has mTy v3 ∧ rF v3 ∧ (0 ≤ y3 ∧ y3 ≤ 16) ∧ e_fr mRb v2 v3 → 17 - y3 < nn → e_Ok 20 elay ecode eI (d + 1) 267 (172, [(0, (1, 275)), (1, (0, y3))], [], v3) (fun r w' => r = [] ∧ e_Has mTy w' ∧ newOk w') := by
                intro nn
                induction nn with
                | zero => intro y3 v3 hj hm; obtain ⟨j36, j37, j38, j40⟩ := hj; exfalso; omega
                | succ nn ih35 =>
                  intro y3 v3 hj hm
                  obtain ⟨j36, j37, j38, j40⟩ := hj
                  refine e_Ok.run (t' := (175, [(0, (1, 275)), (1, (0, y3))], [(0, 16), (0, y3)], v3)) 2 rfl ?_
                  refine e_Ok.if2 rfl (fun h41 => ?_) (fun h41 => ?_)
                  · replace h41 : (y3 : Int) ≥ 16 := h41
                    refine e_Ok.run (t' := (198, [(1, (0, 0)), (0, (1, 275))], [], v3)) 2 rfl ?_
                    have hL42 : ∀ (nn : Nat) (y4 : Int) (v4 : eW), e_Has mTy v4 ∧ rF v4 ∧ (0 ≤ y4 ∧ y4 ≤ 8) ∧ e_fr mRc v3 v4 → 9 - y4 < nn → e_Ok 20 elay ecode eI (d + 1) 267 (198, [(0, (1, 275)), (1, (0, y4))], [], v4) (fun r w' => r = [] ∧ e_Has mTy w' ∧ newOk w') := by
                      intro nn
                      induction nn with
                      | zero => intro y4 v4 hj hm; obtain ⟨j44, j45, j46, j47⟩ := hj; exfalso; omega
                      | succ nn ih43 =>
                        intro y4 v4 hj hm
                        obtain ⟨j44, j45, j46, j47⟩ := hj
                        refine e_Ok.run (t' := (201, [(0, (1, 275)), (1, (0, y4))], [(0, 8), (0, y4)], v4)) 2 rfl ?_
                        refine e_Ok.if2 rfl (fun h48 => ?_) (fun h48 => ?_)
                        · replace h48 : (y4 : Int) ≥ 8 := h48
                          refine e_Ok.run (t' := (258, [(1, (0, 0)), (0, (1, 275))], [], v4)) 2 rfl ?_
                          have hL49 : ∀ (nn : Nat) (y5 : Int) (v5 : eW), e_Has mTy v5 ∧ rF v5 ∧ (0 ≤ y5 ∧ y5 ≤ 64) ∧ e_fr mRd v4 v5 ∧ (∀ p, 0 ≤ p → p < y5 → v5 318 p = -1) → 65 - y5 < nn → e_Ok 20 elay ecode eI (d + 1) 267 (258, [(0, (1, 275)), (1, (0, y5))], [], v5) (fun r w' => r = [] ∧ e_Has mTy w' ∧ newOk w') := by
                            intro nn
                            induction nn with
                            | zero => intro y5 v5 hj hm; obtain ⟨j51, j52, j53, j54, j55⟩ := hj; exfalso; omega
                            | succ nn ih50 =>
                              intro y5 v5 hj hm
                              obtain ⟨j51, j52, j53, j54, j55⟩ := hj
                              refine e_Ok.run (t' := (261, [(0, (1, 275)), (1, (0, y5))], [(0, 64), (0, y5)], v5)) 2 rfl ?_
                              refine e_Ok.if2 rfl (fun h56 => ?_) (fun h56 => ?_)
                              · replace h56 : (y5 : Int) ≥ 64 := h56
                                refine e_Ok.run (t' := (279, [(1, (0, 0)), (0, (1, 275))], [], v5)) 2 rfl ?_
                                have hL57 : ∀ (nn : Nat) (y6 : Int) (v6 : eW), e_Has mTy v6 ∧ rF v6 ∧ (0 ≤ y6 ∧ y6 ≤ 448) ∧ e_fr mRe v5 v6 → 449 - y6 < nn → e_Ok 20 elay ecode eI (d + 1) 267 (279, [(0, (1, 275)), (1, (0, y6))], [], v6) (fun r w' => r = [] ∧ e_Has mTy w' ∧ newOk w') := by
                                  intro nn
                                  induction nn with
                                  | zero => intro y6 v6 hj hm; obtain ⟨j59, j60, j61, j62⟩ := hj; exfalso; omega
                                  | succ nn ih58 =>
                                    intro y6 v6 hj hm
                                    obtain ⟨j59, j60, j61, j62⟩ := hj
                                    refine e_Ok.run (t' := (283, [(0, (1, 275)), (1, (0, y6))], [(0, 448), (0, y6)], v6)) 2 rfl ?_
                                    refine e_Ok.if2 rfl (fun h63 => ?_) (fun h63 => ?_)
                                    · replace h63 : (y6 : Int) ≥ 448 := h63
                                      refine e_Ok.rets rfl rfl ?_
                                      exact ⟨rfl, j59, j60, fun a g1 g2 => ⟨(j62 286 a no_9l_0).trans ((j54 286 a no_9l_1).trans ((j47 286 a no_9l_2).trans ((j40 286 a no_9l_3).trans ((j32 a g1 (by omega)).1)))), (j62 338 a no_9l_4).trans ((j54 338 a no_9l_5).trans ((j47 338 a no_9l_6).trans ((j40 338 a no_9l_7).trans ((j32 a g1 (by omega)).2.1)))), (j62 276 (36 * a + 17) no_9l_8).trans ((j54 276 (36 * a + 17) no_9l_9).trans ((j47 276 (36 * a + 17) (by first | exact no_9l_10 (by omega) | (unfold mRc; omega))).trans ((j40 276 (36 * a + 17) (by first | exact no_9l_11 (by omega) | (unfold mRb; omega))).trans ((j32 a g1 (by omega)).2.2))))⟩, fun p g1 g2 => (j62 318 p no_9l_12).trans (j55 p g1 (by omega)), fun k g1 g2 q1 q2 q3 => (j62 276 k no_9l_8).trans ((j54 276 k no_9l_9).trans ((j47 276 k q3).trans ((j40 276 k q2).trans ((j31 276 k q1).trans (j24 k g1 (by omega))))))⟩
                                    · replace h63 : (y6 : Int) < 448 := Int.not_le.mp (show ¬ ((y6 : Int) ≥ 448) from h63)
                                      refine e_Ok.ps1 (x := (1, 275)) (q := 287) 1 rfl ?_
                                      refine e_Ok.getr (z := 299) rfl (el_o rfl) rfl (ef_o rfl) (e_Has.eq j59 rfl) ⟨by decide, by decide⟩ ?_
                                      refine e_Ok.ps2 (x := (0, 0)) (y := (0, y6)) (q := 292) 2 rfl ?_
                                      refine e_Ok.ast rfl (el_o rfl) rfl (e_nar_b (by omega)) (by omega) ?_
                                      generalize hw64 : e_up v6 299 y6 0 = w64
                                      have hT65 : e_Has mTy w64 := e_Has.upr j59 hw64 rfl (by omega)
                                      refine e_Ok.inc (z := y6 + 1) rfl rfl (by first | with_reducible rfl | omega) (by omega) ?_
                                      show e_Ok 20 elay ecode eI (d + 1) 267 (296, [(1, (0, y6 + 1)), (0, (1, 275))], [], w64) _
                                      refine e_Ok.ps0 (q := 279) 1 rfl ?_
                                      refine e_Ok.sub eAlk (e_sub_of rfl ?_) (ih58 (y6 + 1) w64 ⟨hT65, (rF.up j60 hw64 (by decide)), by omega, (e_fr.up j62 hw64 (by unfold mRe; omega))⟩ (by omega))
                                      exact ⟨rfl, rfl, trivial⟩
                                refine e_Ok.sub eAlk (e_sub_of rfl ?_) (hL57 (449 + 1 : Int).toNat 0 v5 ⟨j51, j52, by omega, (e_fr.refl v5)⟩ (by omega))
                                exact ⟨rfl, rfl, trivial⟩
                              · replace h56 : (y5 : Int) < 64 := Int.not_le.mp (show ¬ ((y5 : Int) ≥ 64) from h56)
                                refine e_Ok.ps1 (x := (1, 275)) (q := 265) 1 rfl ?_
                                refine e_Ok.getr (z := 318) rfl (el_o rfl) rfl (ef_o rfl) (e_Has.eq j51 rfl) ⟨by decide, by decide⟩ ?_
                                refine e_Ok.ps2 (x := (0, (-1))) (y := (0, y5)) (q := 270) 2 rfl ?_
                                refine e_Ok.ast rfl (el_o rfl) rfl rfl (by omega) ?_
                                generalize hw66 : e_up v5 318 y5 (-1) = w66
                                have hT67 : e_Has mTy w66 := e_Has.upr j51 hw66 rfl (by omega)
                                refine e_Ok.inc (z := y5 + 1) rfl rfl (by first | with_reducible rfl | omega) (by omega) ?_
                                show e_Ok 20 elay ecode eI (d + 1) 267 (274, [(1, (0, y5 + 1)), (0, (1, 275))], [], w66) _
                                refine e_Ok.ps0 (q := 258) 1 rfl ?_
                                refine e_Ok.sub eAlk (e_sub_of rfl ?_) (ih50 (y5 + 1) w66 ⟨hT67, (rF.up j52 hw66 (by decide)), by omega, (e_fr.up j54 hw66 (by unfold mRd; omega)), (fun p g1 g2 => Decidable.byCases (p := p = y5) (fun e => by rw [e, ← hw66]; exact e_up_eq _ _ _ _) (fun e => Eq.trans (show w66 318 p = v5 318 p from by rw [← hw66]; exact e_up_ne _ _ (Or.inr e)) (j55 p g1 (by omega))))⟩ (by omega))
                                exact ⟨rfl, rfl, trivial⟩
                          refine e_Ok.sub eAlk (e_sub_of rfl ?_) (hL49 (65 + 1 : Int).toNat 0 v4 ⟨j44, j45, by omega, (e_fr.refl v4), (fun p g1 g2 => by omega)⟩ (by omega))
                          exact ⟨rfl, rfl, trivial⟩
                        · replace h48 : (y4 : Int) < 8 := Int.not_le.mp (show ¬ ((y4 : Int) ≥ 8) from h48)
                          refine e_Ok.ps1 (x := (1, 275)) (q := 205) 1 rfl ?_
                          refine e_Ok.getr (z := 276) rfl (el_o rfl) rfl (ef_o rfl) (e_Has.eq j44 rfl) ⟨by decide, by decide⟩ ?_
                          refine e_Ok.ps2 (x := (0, y4)) (y := (0, 20868)) (q := 212) 2 rfl ?_
                          refine e_Ok.add (z := y4 + 20868) rfl (Int.add_comm _ _) (by omega) ?_
                          refine e_Ok.ps1 (x := (0, (-1))) (q := 214) 1 rfl ?_
                          refine e_Ok.ast rfl (el_o rfl) rfl rfl (by omega) ?_
                          generalize hw68 : e_up v4 276 (y4 + 20868) (-1) = w68
                          have hT69 : e_Has mTy w68 := e_Has.upr j44 hw68 (nR_LOCK (l := y4) (by omega)) (by omega)
                          refine e_Ok.ps1 (x := (1, 275)) (q := 216) 1 rfl ?_
                          refine e_Ok.getr (z := 276) rfl (el_o rfl) rfl (ef_o rfl) (e_uq hw68 (Or.inl (by decide)) (e_Has.eq j44 rfl)) ⟨by decide, by decide⟩ ?_
                          refine e_Ok.ps3 (x := (0, y4)) (y := (0, 4)) (z := (0, 20836)) (q := 224) 3 rfl ?_
                          refine e_Ok.mul (z := 4 * y4) rfl rfl (by omega) ?_
                          refine e_Ok.add (z := 4 * y4 + 20836) rfl (Int.add_comm _ _) (by omega) ?_
                          refine e_Ok.ps1 (x := (0, 1)) (q := 227) 1 rfl ?_
                          refine e_Ok.ast rfl (el_o rfl) rfl rfl (by omega) ?_
                          generalize hw70 : e_up w68 276 (4 * y4 + 20836) 1 = w70
                          have hT71 : e_Has mTy w70 := e_Has.upr hT69 hw70 (nR_INPUT (i := y4) (f := 0) (by omega) (by decide)) (by omega)
                          refine e_Ok.ps1 (x := (1, 275)) (q := 229) 1 rfl ?_
                          refine e_Ok.getr (z := 276) rfl (el_o rfl) rfl (ef_o rfl) (e_uq hw70 (Or.inl (by decide)) (e_uq hw68 (Or.inl (by decide)) (e_Has.eq j44 rfl))) ⟨by decide, by decide⟩ ?_
                          refine e_Ok.ps3 (x := (0, y4)) (y := (0, 4)) (z := (0, 20836)) (q := 237) 3 rfl ?_
                          refine e_Ok.mul (z := 4 * y4) rfl rfl (by omega) ?_
                          refine e_Ok.add (z := 4 * y4 + 20836) rfl (Int.add_comm _ _) (by omega) ?_
                          refine e_Ok.ps1 (x := (0, 1)) (q := 240) 1 rfl ?_
                          refine e_Ok.add (z := 4 * y4 + 20837) rfl (e_adl (by decide)) (by omega) ?_
                          refine e_Ok.ps1 (x := (0, 1)) (q := 242) 1 rfl ?_
                          refine e_Ok.ast rfl (el_o rfl) rfl rfl (by omega) ?_
                          generalize hw72 : e_up w70 276 (4 * y4 + 20837) 1 = w72
                          have hT73 : e_Has mTy w72 := e_Has.upr hT71 hw72 (nR_INPUT (i := y4) (f := 1) (by omega) (by decide)) (by omega)
                          refine e_Ok.ps1 (x := (1, 275)) (q := 244) 1 rfl ?_
                          refine e_Ok.getr (z := 317) rfl (el_o rfl) rfl (ef_o rfl) (e_uq hw72 (Or.inl (by decide)) (e_uq hw70 (Or.inl (by decide)) (e_uq hw68 (Or.inl (by decide)) (e_Has.eq j44 rfl)))) ⟨by decide, by decide⟩ ?_
                          refine e_Ok.ps2 (x := (0, 0)) (y := (0, y4)) (q := 249) 2 rfl ?_
                          refine e_Ok.ast rfl (el_o rfl) rfl (e_nar_b (by omega)) (by omega) ?_
                          generalize hw74 : e_up w72 317 y4 0 = w74
                          have hT75 : e_Has mTy w74 := e_Has.upr hT73 hw74 (mt_o rfl) (by omega)
                          refine e_Ok.inc (z := y4 + 1) rfl rfl (by first | with_reducible rfl | omega) (by omega) ?_
                          show e_Ok 20 elay ecode eI (d + 1) 267 (253, [(1, (0, y4 + 1)), (0, (1, 275))], [], w74) _
                          refine e_Ok.ps0 (q := 198) 1 rfl ?_
                          refine e_Ok.sub eAlk (e_sub_of rfl ?_) (ih43 (y4 + 1) w74 ⟨hT75, (rF.up (rF.up (rF.up (rF.up j45 hw68 (by decide)) hw70 (by decide)) hw72 (by decide)) hw74 (by decide)), by omega, (e_fr.up (e_fr.up (e_fr.up (e_fr.up j47 hw68 (by unfold mRc; omega)) hw70 (by unfold mRc; omega)) hw72 (by unfold mRc; omega)) hw74 (by unfold mRc; omega))⟩ (by omega))
                          exact ⟨rfl, rfl, trivial⟩
                    refine e_Ok.sub eAlk (e_sub_of rfl ?_) (hL42 (9 + 1 : Int).toNat 0 v3 ⟨j36, j37, by omega, (e_fr.refl v3)⟩ (by omega))
                    exact ⟨rfl, rfl, trivial⟩
                  · replace h41 : (y3 : Int) < 16 := Int.not_le.mp (show ¬ ((y3 : Int) ≥ 16) from h41)
                    refine e_Ok.ps1 (x := (1, 275)) (q := 179) 1 rfl ?_
                    refine e_Ok.getr (z := 276) rfl (el_o rfl) rfl (ef_o rfl) (e_Has.eq j36 rfl) ⟨by decide, by decide⟩ ?_
                    refine e_Ok.ps1 (x := (0, y3)) (q := 183) 1 rfl ?_
                    refine e_Ok.callS rfl (e_dq hd rfl) rfl rfl (c_269 (by omega)) (fun r76 w77 h78 => ?_)
                    obtain ⟨rfl, rfl⟩ := h78
                    refine e_Ok.nrm (q := 186) (st' := [(0, 1260 * y3 + 416), (1, 276)]) rfl rfl ?_
                    refine e_Ok.ps1 (x := (0, 1)) (q := 187) 1 rfl ?_
                    refine e_Ok.add (z := 1260 * y3 + 417) rfl (e_adl (by decide)) (by omega) ?_
                    refine e_Ok.ps1 (x := (0, (-1))) (q := 189) 1 rfl ?_
                    refine e_Ok.ast rfl (el_o rfl) rfl rfl (by omega) ?_
                    generalize hw79 : e_up v3 276 (1260 * y3 + 417) (-1) = w79
                    have hT80 : e_Has mTy w79 := e_Has.upr j36 hw79 (nR_TASK_ARM (t := y3) (by omega)) (by omega)
                    refine e_Ok.inc (z := y3 + 1) rfl rfl (by first | with_reducible rfl | omega) (by omega) ?_
                    show e_Ok 20 elay ecode eI (d + 1) 267 (193, [(1, (0, y3 + 1)), (0, (1, 275))], [], w79) _
                    refine e_Ok.ps0 (q := 172) 1 rfl ?_
                    refine e_Ok.sub eAlk (e_sub_of rfl ?_) (ih35 (y3 + 1) w79 ⟨hT80, (rF.up j37 hw79 (by decide)), by omega, (e_fr.up j40 hw79 (by unfold mRb; omega))⟩ (by omega))
                    exact ⟨rfl, rfl, trivial⟩
              refine e_Ok.sub eAlk (e_sub_of rfl ?_) (hL34 (17 + 1 : Int).toNat 0 v2 ⟨j28, j29, by omega, (e_fr.refl v2)⟩ (by omega))
              exact ⟨rfl, rfl, trivial⟩
            · replace h33 : (y2 : Int) < 4 := Int.not_le.mp (show ¬ ((y2 : Int) ≥ 4) from h33)
              refine e_Ok.ps1 (x := (1, 275)) (q := 74) 1 rfl ?_
              refine e_Ok.getr (z := 286) rfl (el_o rfl) rfl (ef_o rfl) (e_Has.eq j28 rfl) ⟨by decide, by decide⟩ ?_
              refine e_Ok.ps2 (x := (0, 0)) (y := (0, y2)) (q := 79) 2 rfl ?_
              refine e_Ok.ast rfl (el_o rfl) rfl rfl (by omega) ?_
              generalize hw81 : e_up v2 286 y2 0 = w81
              have hT82 : e_Has mTy w81 := e_Has.upr j28 hw81 rfl (by omega)
              refine e_Ok.ps1 (x := (1, 275)) (q := 81) 1 rfl ?_
              refine e_Ok.getr (z := 276) rfl (el_o rfl) rfl (ef_o rfl) (e_uq hw81 (Or.inl (by decide)) (e_Has.eq j28 rfl)) ⟨by decide, by decide⟩ ?_
              refine e_Ok.ps1 (x := (0, y2)) (q := 85) 1 rfl ?_
              refine e_Ok.callS rfl (e_dq hd rfl) rfl rfl (c_268 (by omega)) (fun r83 w84 h85 => ?_)
              obtain ⟨rfl, rfl⟩ := h85
              refine e_Ok.nrm (q := 88) (st' := [(0, 36 * y2 + 16), (1, 276)]) rfl rfl ?_
              refine e_Ok.ps1 (x := (0, 1)) (q := 89) 1 rfl ?_
              refine e_Ok.add (z := 36 * y2 + 17) rfl (e_adl (by decide)) (by omega) ?_
              refine e_Ok.ps1 (x := (0, (-1))) (q := 91) 1 rfl ?_
              refine e_Ok.ast rfl (el_o rfl) rfl rfl (by omega) ?_
              generalize hw86 : e_up w81 276 (36 * y2 + 17) (-1) = w86
              have hT87 : e_Has mTy w86 := e_Has.upr hT82 hw86 (nR_HOLDS (a := y2) (by omega)) (by omega)
              refine e_Ok.ps1 (x := (1, 275)) (q := 93) 1 rfl ?_
              refine e_Ok.getr (z := 276) rfl (el_o rfl) rfl (ef_o rfl) (e_uq hw86 (Or.inl (by decide)) (e_uq hw81 (Or.inl (by decide)) (e_Has.eq j28 rfl))) ⟨by decide, by decide⟩ ?_
              refine e_Ok.ps1 (x := (0, y2)) (q := 97) 1 rfl ?_
              refine e_Ok.callS rfl (e_dq hd rfl) rfl rfl (c_268 (by omega)) (fun r88 w89 h90 => ?_)
              obtain ⟨rfl, rfl⟩ := h90
              refine e_Ok.nrm (q := 100) (st' := [(0, 36 * y2 + 16), (1, 276)]) rfl rfl ?_
              refine e_Ok.ps1 (x := (0, 2)) (q := 101) 1 rfl ?_
              refine e_Ok.add (z := 36 * y2 + 18) rfl (e_adl (by decide)) (by omega) ?_
              refine e_Ok.ps1 (x := (0, (-1))) (q := 103) 1 rfl ?_
              refine e_Ok.ast rfl (el_o rfl) rfl rfl (by omega) ?_
              generalize hw91 : e_up w86 276 (36 * y2 + 18) (-1) = w91
              have hT92 : e_Has mTy w91 := e_Has.upr hT87 hw91 (nR_STUCK (a := y2) (by omega)) (by omega)
              refine e_Ok.ps1 (x := (1, 275)) (q := 105) 1 rfl ?_
              refine e_Ok.getr (z := 276) rfl (el_o rfl) rfl (ef_o rfl) (e_uq hw91 (Or.inl (by decide)) (e_uq hw86 (Or.inl (by decide)) (e_uq hw81 (Or.inl (by decide)) (e_Has.eq j28 rfl)))) ⟨by decide, by decide⟩ ?_
              refine e_Ok.ps1 (x := (0, y2)) (q := 109) 1 rfl ?_
              refine e_Ok.callS rfl (e_dq hd rfl) rfl rfl (c_268 (by omega)) (fun r93 w94 h95 => ?_)
              obtain ⟨rfl, rfl⟩ := h95
              refine e_Ok.nrm (q := 112) (st' := [(0, 36 * y2 + 16), (1, 276)]) rfl rfl ?_
              refine e_Ok.ps1 (x := (0, 3)) (q := 113) 1 rfl ?_
              refine e_Ok.add (z := 36 * y2 + 19) rfl (e_adl (by decide)) (by omega) ?_
              refine e_Ok.ps1 (x := (0, (-1))) (q := 115) 1 rfl ?_
              refine e_Ok.ast rfl (el_o rfl) rfl rfl (by omega) ?_
              generalize hw101 : e_up w91 276 (36 * y2 + 19) (-1) = w101
              have hT103 : e_Has mTy w101 := e_Has.upr hT92 hw101 (nR_WAY_SIZE (a := y2) (by omega)) (by omega)
              refine e_Ok.ps1 (x := (1, 275)) (q := 117) 1 rfl ?_
              refine e_Ok.getr (z := 276) rfl (el_o rfl) rfl (ef_o rfl) (e_uq hw101 (Or.inl (by decide)) (e_uq hw91 (Or.inl (by decide)) (e_uq hw86 (Or.inl (by decide)) (e_uq hw81 (Or.inl (by decide)) (e_Has.eq j28 rfl))))) ⟨by decide, by decide⟩ ?_
              refine e_Ok.ps1 (x := (0, y2)) (q := 121) 1 rfl ?_
              refine e_Ok.callS rfl (e_dq hd rfl) rfl rfl (c_268 (by omega)) (fun r104 w105 h106 => ?_)
              obtain ⟨rfl, rfl⟩ := h106
              refine e_Ok.nrm (q := 124) (st' := [(0, 36 * y2 + 16), (1, 276)]) rfl rfl ?_
              refine e_Ok.ps1 (x := (0, 9)) (q := 126) 1 rfl ?_
              refine e_Ok.add (z := 36 * y2 + 25) rfl (e_adl (by decide)) (by omega) ?_
              refine e_Ok.ps1 (x := (0, (-1))) (q := 128) 1 rfl ?_
              refine e_Ok.ast rfl (el_o rfl) rfl rfl (by omega) ?_
              generalize hw107 : e_up w101 276 (36 * y2 + 25) (-1) = w107
              have hT108 : e_Has mTy w107 := e_Has.upr hT103 hw107 (nR_MOVER (a := y2) (by omega)) (by omega)
              refine e_Ok.ps1 (x := (1, 275)) (q := 130) 1 rfl ?_
              refine e_Ok.getr (z := 306) rfl (el_o rfl) rfl (ef_o rfl) (e_uq hw107 (Or.inl (by decide)) (e_uq hw101 (Or.inl (by decide)) (e_uq hw91 (Or.inl (by decide)) (e_uq hw86 (Or.inl (by decide)) (e_uq hw81 (Or.inl (by decide)) (e_Has.eq j28 rfl)))))) ⟨by decide, by decide⟩ ?_
              refine e_Ok.ps2 (x := (0, (-1))) (y := (0, y2)) (q := 135) 2 rfl ?_
              refine e_Ok.ast rfl (el_o rfl) rfl rfl (by omega) ?_
              generalize hw109 : e_up w107 306 y2 (-1) = w109
              have hT110 : e_Has mTy w109 := e_Has.upr hT108 hw109 (mt_o rfl) (by omega)
              refine e_Ok.ps1 (x := (1, 275)) (q := 137) 1 rfl ?_
              refine e_Ok.getr (z := 280) rfl (el_o rfl) rfl (ef_o rfl) (e_uq hw109 (Or.inl (by decide)) (e_uq hw107 (Or.inl (by decide)) (e_uq hw101 (Or.inl (by decide)) (e_uq hw91 (Or.inl (by decide)) (e_uq hw86 (Or.inl (by decide)) (e_uq hw81 (Or.inl (by decide)) (e_Has.eq j28 rfl))))))) ⟨by decide, by decide⟩ ?_
              refine e_Ok.ps2 (x := (0, 0)) (y := (0, y2)) (q := 142) 2 rfl ?_
              refine e_Ok.ast rfl (el_o rfl) rfl rfl (by omega) ?_
              generalize hw111 : e_up w109 280 y2 0 = w111
              have hT112 : e_Has mTy w111 := e_Has.ups hT110 hw111 (mt_o rfl)
              refine e_Ok.ps1 (x := (1, 275)) (q := 144) 1 rfl ?_
              refine e_Ok.getr (z := 338) rfl (el_o rfl) rfl (ef_o rfl) (e_uq hw111 (Or.inl (by decide)) (e_uq hw109 (Or.inl (by decide)) (e_uq hw107 (Or.inl (by decide)) (e_uq hw101 (Or.inl (by decide)) (e_uq hw91 (Or.inl (by decide)) (e_uq hw86 (Or.inl (by decide)) (e_uq hw81 (Or.inl (by decide)) (e_Has.eq j28 rfl)))))))) ⟨by decide, by decide⟩ ?_
              refine e_Ok.ps2 (x := (0, 0)) (y := (0, y2)) (q := 149) 2 rfl ?_
              refine e_Ok.ast rfl (el_o rfl) rfl rfl (by omega) ?_
              generalize hw113 : e_up w111 338 y2 0 = w113
              have hT114 : e_Has mTy w113 := e_Has.upr hT112 hw113 (mt_o rfl) (by omega)
              refine e_Ok.ps1 (x := (1, 275)) (q := 151) 1 rfl ?_
              refine e_Ok.getr (z := 339) rfl (el_o rfl) rfl (ef_o rfl) (e_uq hw113 (Or.inl (by decide)) (e_uq hw111 (Or.inl (by decide)) (e_uq hw109 (Or.inl (by decide)) (e_uq hw107 (Or.inl (by decide)) (e_uq hw101 (Or.inl (by decide)) (e_uq hw91 (Or.inl (by decide)) (e_uq hw86 (Or.inl (by decide)) (e_uq hw81 (Or.inl (by decide)) (e_Has.eq j28 rfl))))))))) ⟨by decide, by decide⟩ ?_
              refine e_Ok.ps2 (x := (0, 0)) (y := (0, y2)) (q := 156) 2 rfl ?_
              refine e_Ok.ast rfl (el_o rfl) rfl rfl (by omega) ?_
              generalize hw115 : e_up w113 339 y2 0 = w115
              have hT116 : e_Has mTy w115 := e_Has.upr hT114 hw115 (mt_o rfl) (by omega)
              refine e_Ok.ps1 (x := (1, 275)) (q := 158) 1 rfl ?_
              refine e_Ok.getr (z := 340) rfl (el_o rfl) rfl (ef_o rfl) (e_uq hw115 (Or.inl (by decide)) (e_uq hw113 (Or.inl (by decide)) (e_uq hw111 (Or.inl (by decide)) (e_uq hw109 (Or.inl (by decide)) (e_uq hw107 (Or.inl (by decide)) (e_uq hw101 (Or.inl (by decide)) (e_uq hw91 (Or.inl (by decide)) (e_uq hw86 (Or.inl (by decide)) (e_uq hw81 (Or.inl (by decide)) (e_Has.eq j28 rfl)))))))))) ⟨by decide, by decide⟩ ?_
              refine e_Ok.ps2 (x := (0, 0)) (y := (0, y2)) (q := 163) 2 rfl ?_
              refine e_Ok.ast rfl (el_o rfl) rfl (e_nar_b (by omega)) (by omega) ?_
              generalize hw117 : e_up w115 340 y2 0 = w117
              have hT118 : e_Has mTy w117 := e_Has.upr hT116 hw117 (mt_o rfl) (by omega)
              refine e_Ok.inc (z := y2 + 1) rfl rfl (by first | with_reducible rfl | omega) (by omega) ?_
              show e_Ok 20 elay ecode eI (d + 1) 267 (167, [(1, (0, y2 + 1)), (0, (1, 275))], [], w117) _
              refine e_Ok.ps0 (q := 68) 1 rfl ?_
              refine e_Ok.sub eAlk (e_sub_of rfl ?_) (ih27 (y2 + 1) w117 ⟨hT118, (rF.up (rF.up (rF.up (rF.up (rF.up (rF.up (rF.up (rF.up (rF.up (rF.up j29 hw81 (by decide)) hw86 (by decide)) hw91 (by decide)) hw101 (by decide)) hw107 (by decide)) hw109 (by decide)) hw111 (by decide)) hw113 (by decide)) hw115 (by decide)) hw117 (by decide)), by omega, (e_fr.up (e_fr.up (e_fr.up (e_fr.up (e_fr.up (e_fr.up (e_fr.up (e_fr.up (e_fr.up (e_fr.up j31 hw81 (by unfold mRa; omega)) hw86 (by unfold mRa; omega)) hw91 (by unfold mRa; omega)) hw101 (by unfold mRa; omega)) hw107 (by unfold mRa; omega)) hw109 (by unfold mRa; omega)) hw111 (by unfold mRa; omega)) hw113 (by unfold mRa; omega)) hw115 (by unfold mRa; omega)) hw117 (by unfold mRa; omega)), (fun a g1 g2 => Decidable.byCases (p := a = y2) (fun e => by rw [e]; exact ⟨(e_uq hw117 (Or.inl (by first | decide | omega)) (e_uq hw115 (Or.inl (by first | decide | omega)) (e_uq hw113 (Or.inl (by first | decide | omega)) (e_uq hw111 (Or.inl (by first | decide | omega)) (e_uq hw109 (Or.inl (by first | decide | omega)) (e_uq hw107 (Or.inl (by first | decide | omega)) (e_uq hw101 (Or.inl (by first | decide | omega)) (e_uq hw91 (Or.inl (by first | decide | omega)) (e_uq hw86 (Or.inl (by first | decide | omega)) (e_ue hw81)))))))))), (e_uq hw117 (Or.inl (by first | decide | omega)) (e_uq hw115 (Or.inl (by first | decide | omega)) (e_ue hw113))), (e_uq hw117 (Or.inl (by first | decide | omega)) (e_uq hw115 (Or.inl (by first | decide | omega)) (e_uq hw113 (Or.inl (by first | decide | omega)) (e_uq hw111 (Or.inl (by first | decide | omega)) (e_uq hw109 (Or.inl (by first | decide | omega)) (e_uq hw107 (Or.inr (by omega)) (e_uq hw101 (Or.inr (by omega)) (e_uq hw91 (Or.inr (by omega)) (e_ue hw86)))))))))⟩) (fun e => ⟨Eq.trans (show w117 286 a = v2 286 a from (e_uq hw117 (Or.inl (by first | decide | omega)) (e_uq hw115 (Or.inl (by first | decide | omega)) (e_uq hw113 (Or.inl (by first | decide | omega)) (e_uq hw111 (Or.inl (by first | decide | omega)) (e_uq hw109 (Or.inl (by first | decide | omega)) (e_uq hw107 (Or.inl (by first | decide | omega)) (e_uq hw101 (Or.inl (by first | decide | omega)) (e_uq hw91 (Or.inl (by first | decide | omega)) (e_uq hw86 (Or.inl (by first | decide | omega)) (e_uq hw81 (Or.inr (by omega)) rfl))))))))))) (j32 a g1 (by omega)).1, Eq.trans (show w117 338 a = v2 338 a from (e_uq hw117 (Or.inl (by first | decide | omega)) (e_uq hw115 (Or.inl (by first | decide | omega)) (e_uq hw113 (Or.inr (by omega)) (e_uq hw111 (Or.inl (by first | decide | omega)) (e_uq hw109 (Or.inl (by first | decide | omega)) (e_uq hw107 (Or.inl (by first | decide | omega)) (e_uq hw101 (Or.inl (by first | decide | omega)) (e_uq hw91 (Or.inl (by first | decide | omega)) (e_uq hw86 (Or.inl (by first | decide | omega)) (e_uq hw81 (Or.inl (by first | decide | omega)) rfl))))))))))) (j32 a g1 (by omega)).2.1, Eq.trans (show w117 276 (36 * a + 17) = v2 276 (36 * a + 17) from (e_uq hw117 (Or.inl (by first | decide | omega)) (e_uq hw115 (Or.inl (by first | decide | omega)) (e_uq hw113 (Or.inl (by first | decide | omega)) (e_uq hw111 (Or.inl (by first | decide | omega)) (e_uq hw109 (Or.inl (by first | decide | omega)) (e_uq hw107 (Or.inr (by omega)) (e_uq hw101 (Or.inr (by omega)) (e_uq hw91 (Or.inr (by omega)) (e_uq hw86 (Or.inr (by omega)) (e_uq hw81 (Or.inl (by first | decide | omega)) rfl))))))))))) (j32 a g1 (by omega)).2.2⟩))⟩ (by omega))
              exact ⟨rfl, rfl, trivial⟩
        refine e_Ok.sub eAlk (e_sub_of rfl ?_) (hL26 (5 + 1 : Int).toNat 0 v1 ⟨j21, j22, by omega, (e_fr.refl v1), (fun a g1 g2 => by omega)⟩ (by omega))
        exact ⟨rfl, rfl, trivial⟩
      · replace h25 : (y1 : Int) < 33060 := Int.not_le.mp (show ¬ ((y1 : Int) ≥ 33060) from h25)
        refine e_Ok.ps1 (x := (1, 275)) (q := 54) 1 rfl ?_
        refine e_Ok.getr (z := 276) rfl (el_o rfl) rfl (ef_o rfl) (e_Has.eq j21 rfl) ⟨by decide, by decide⟩ ?_
        refine e_Ok.ps2 (x := (0, 0)) (y := (0, y1)) (q := 59) 2 rfl ?_
        refine e_Ok.ast rfl (el_o rfl) rfl rfl (by omega) ?_
        generalize hw119 : e_up v1 276 y1 0 = w119
        have hT120 : e_Has mTy w119 := e_Has.zero j21 hw119
        refine e_Ok.inc (z := y1 + 1) rfl rfl (by first | with_reducible rfl | omega) (by omega) ?_
        show e_Ok 20 elay ecode eI (d + 1) 267 (63, [(1, (0, y1 + 1)), (0, (1, 275))], [], w119) _
        refine e_Ok.ps0 (q := 47) 1 rfl ?_
        refine e_Ok.sub eAlk (e_sub_of rfl ?_) (ih20 (y1 + 1) w119 ⟨hT120, (rF.up j22 hw119 (by decide)), by omega, (fun k g1 g2 => Decidable.byCases (p := k = y1) (fun e => by rw [e, ← hw119]; exact e_up_eq _ _ _ _) (fun e => Eq.trans (show w119 276 k = v1 276 k from by rw [← hw119]; exact e_up_ne _ _ (Or.inr e)) (j24 k g1 (by omega))))⟩ (by omega))
        exact ⟨rfl, rfl, trivial⟩
  refine e_Ok.sub eAlk (e_sub_of rfl ?_) (hL19 (33061 + 1 : Int).toNat 0 w17 ⟨hT18, ⟨(e_uq hw17 (Or.inr (by first | decide | omega)) (e_uq hw15 (Or.inr (by first | decide | omega)) (e_uq hw13 (Or.inr (by first | decide | omega)) (e_uq hw11 (Or.inr (by first | decide | omega)) (e_uq hw9 (Or.inr (by first | decide | omega)) (e_uq hw7 (Or.inr (by first | decide | omega)) (e_uq hw5 (Or.inr (by first | decide | omega)) (e_uq hw3 (Or.inr (by first | decide | omega)) (e_ue hw1))))))))), (e_uq hw17 (Or.inr (by first | decide | omega)) (e_uq hw15 (Or.inr (by first | decide | omega)) (e_uq hw13 (Or.inr (by first | decide | omega)) (e_uq hw11 (Or.inr (by first | decide | omega)) (e_uq hw9 (Or.inr (by first | decide | omega)) (e_uq hw7 (Or.inr (by first | decide | omega)) (e_uq hw5 (Or.inr (by first | decide | omega)) (e_ue hw3)))))))), (e_uq hw17 (Or.inr (by first | decide | omega)) (e_uq hw15 (Or.inr (by first | decide | omega)) (e_uq hw13 (Or.inr (by first | decide | omega)) (e_uq hw11 (Or.inr (by first | decide | omega)) (e_uq hw9 (Or.inr (by first | decide | omega)) (e_uq hw7 (Or.inr (by first | decide | omega)) (e_ue hw5))))))), (e_uq hw17 (Or.inr (by first | decide | omega)) (e_uq hw15 (Or.inr (by first | decide | omega)) (e_uq hw13 (Or.inr (by first | decide | omega)) (e_uq hw11 (Or.inr (by first | decide | omega)) (e_uq hw9 (Or.inr (by first | decide | omega)) (e_ue hw7)))))), (e_uq hw17 (Or.inr (by first | decide | omega)) (e_uq hw15 (Or.inr (by first | decide | omega)) (e_uq hw13 (Or.inr (by first | decide | omega)) (e_uq hw11 (Or.inr (by first | decide | omega)) (e_ue hw9))))), (e_uq hw17 (Or.inr (by first | decide | omega)) (e_uq hw15 (Or.inr (by first | decide | omega)) (e_uq hw13 (Or.inr (by first | decide | omega)) (e_ue hw11)))), (e_uq hw17 (Or.inr (by first | decide | omega)) (e_uq hw15 (Or.inr (by first | decide | omega)) (e_ue hw13))), (e_uq hw17 (Or.inr (by first | decide | omega)) (e_ue hw15))⟩, by omega, (fun k g1 g2 => by omega)⟩ (by omega))
  exact ⟨rfl, rfl, trivial⟩
end
end
-- part 9m
section
noncomputable section
/-! a new cell keeps the invariant: it can be kept -/
def G0 : Int → Gh := fun _ => ((0, 0, 0), (fun _ => 0, fun _ => 0, fun _ => 0, fun _ => 0), (fun r q => q = r, fun _ _ => False))
theorem newOk.inv {w : eW} (hT : e_Has mTy w) (h : newOk w) : mInv w G0 := by
  obtain ⟨⟨f3, f10, f23, f30, f40, f42, f49, f5⟩, ha, hp, hk⟩ := h
  have h20 : ∀ a, 0 ≤ a → a ≤ 3 → w 276 (36 * a + 20) = 0 := fun a g1 g2 => hk _ (by omega) (by omega) (by unfold mRa; omega) (by unfold mRb; omega) (by unfold mRc; omega)
  have h22 : ∀ a, 0 ≤ a → a ≤ 3 → w 276 (36 * a + 22) = 0 := fun a g1 g2 => hk _ (by omega) (by omega) (by unfold mRa; omega) (by unfold mRb; omega) (by unfold mRc; omega)
  have hor : ∀ b, 0 ≤ b → b ≤ 3 → w 276 (33 * b + 20704) = 0 := fun b g1 g2 => hk _ (by omega) (by omega) (by unfold mRa; omega) (by unfold mRb; omega) (by unfold mRc; omega)
  have htk : ∀ v, 0 ≤ v → v ≤ 15 → w 276 (1260 * v + 416) = 0 := fun v g1 g2 => hk _ (by omega) (by omega) (by unfold mRa; omega) (by unfold mRb; omega) (by unfold mRc; omega)
  refine ⟨hT, ⟨fun _ => 0, fun p g1 g2 => ⟨(by decide : (0 : Int) ≤ 0 ∧ (0 : Int) ≤ 63), fun q => by have := hp p g1 (by omega); omega⟩⟩, fun a j g1 g2 g3 g4 => by have := (ha a g1 (by omega)).1; omega, fun z g1 g2 => by omega, fun b g1 g2 => (ha b (by omega) (by omega)).1, ?_, ?_, fun a g1 g2 => ?_, fun v g1 g2 => tkOk.not (Or.inl (by have := htk v g1 g2; omega))⟩
  · refine ⟨fun a j g1 g2 g3 g4 => by have := (ha a g1 (by omega)).1; omega, fun a g1 g2 => ⟨fun e => by have := h20 a g1 g2; omega, fun e => by have := h22 a g1 g2; omega⟩, fun e a g1 g2 => by omega⟩
  · rw [f40]
    refine ⟨fun b i g1 g2 g3 g4 => by have := hor b g1 g2; omega, fun b i j g1 g2 g3 g4 g5 => by have := hor b g1 g2; omega, fun p g1 g2 g3 => by omega, fun a g1 g2 g3 => by have := (ha a g1 (by omega)).2.2; omega⟩
  · have hr := (ha a g1 (by omega)).2.1
    exact ⟨(by decide : (0 : Int) ≤ 0 ∧ (0 : Int) ≤ 10000 ∧ (0 : Int) ≤ 0 ∧ (0 : Int) ≤ 900 ∧ (0 : Int) ≤ 0 ∧ (0 : Int) ≤ 900), fun p g1 g2 => absurd (show p < 0 from g2) (by omega), fun t g1 g2 => absurd (show t < 0 from g2) (by omega), ⟨rfl, fun r _ _ => (by decide : (0 : Int) ≤ 0 ∧ (0 : Int) ≤ 30), fun r => rfl, fun q e => e, fun r q e g => by rw [show q = r from e]; omega, fun r q e _ _ => (by decide : (0 : Int) ≤ 0)⟩, fun v g1 g2 => absurd (show v < 0 from g2) (by omega), fun r v e => absurd e id, fun q g1 g2 => by omega⟩
end
end
-- part 9n
section
noncomputable section
/-! numbers of nodes: a node's digits -/
def prd (f : Int → Int) : Nat → Int
  | 0 => 1
  | n + 1 => prd f n * f n
def dv (f : Int → Int) (x : Int) : Nat → Int
  | 0 => x
  | k + 1 => dv f x k / f k
theorem prd_pos {f : Int → Int} : ∀ {n : Nat}, (∀ k : Int, 0 ≤ k → k < n → 1 ≤ f k) → 1 ≤ prd f n
  | 0, _ => Int.le_refl 1
  | n + 1, h => by
    have h1 := prd_pos (n := n) (fun k g1 g2 => h k g1 (by omega))
    have h2 := h n (by omega) (by omega)
    show 1 ≤ prd f n * f n
    have := Int.mul_le_mul h1 h2 (by decide) (by omega)
    omega
theorem prd_le {f : Int → Int} {m : Nat} : ∀ {n : Nat}, m ≤ n → (∀ k : Int, 0 ≤ k → k < n → 1 ≤ f k) → prd f m ≤ prd f n
  | 0, hm, _ => by rw [Nat.le_zero.mp hm]; exact Int.le_refl _
  | n + 1, hm, h => by
    rcases Nat.lt_or_ge m (n + 1) with g | g
    · have h1 := prd_le (m := m) (n := n) (by omega) (fun k g1 g2 => h k g1 (by omega))
      have h0 := prd_pos (n := n) (fun k g1 g2 => h k g1 (by omega))
      have h2 := h n (by omega) (by omega)
      have : prd f n * 1 ≤ prd f n * f n := Int.mul_le_mul_of_nonneg_left h2 (by omega)
      show prd f m ≤ prd f n * f n
      omega
    · rw [show m = n + 1 by omega]; exact Int.le_refl _
theorem dv_eq {f : Int → Int} {x : Int} : ∀ {n : Nat}, (∀ k : Int, 0 ≤ k → k < n → 1 ≤ f k) → dv f x n = x / prd f n
  | 0, _ => by show x = x / 1; rw [Int.ediv_one]
  | n + 1, h => by
    have h0 := prd_pos (n := n) (fun k g1 g2 => h k g1 (by omega))
    show dv f x n / f n = x / (prd f n * f n)
    rw [dv_eq (n := n) (fun k g1 g2 => h k g1 (by omega)), Int.ediv_ediv_of_nonneg (by omega)]
/-- the node beside: one more in the digit j -/
theorem dv_up {f : Int → Int} {x : Int} {j : Nat} (h : ∀ k : Int, 0 ≤ k → k < j → 1 ≤ f k) : dv f (x + prd f j) j = dv f x j + 1 := by
  have h0 := prd_pos h
  rw [dv_eq h, dv_eq h, Int.add_ediv_of_dvd_right ⟨1, by omega⟩, Int.ediv_self (by omega)]
theorem dv_room {f : Int → Int} {x : Int} {j n : Nat} (hj : j < n) (h : ∀ k : Int, 0 ≤ k → k < n → 1 ≤ f k) (hx : 0 ≤ x ∧ x < prd f n) (hd : dv f x j % f j + 1 < f j) : x + prd f j < prd f n := by
  have hjj : ∀ k : Int, 0 ≤ k → k < j → 1 ≤ f k := fun k g1 g2 => h k g1 (by omega)
  have h0 := prd_pos hjj
  have hf := h j (by omega) (by omega)
  -- x lies below the next multiple of prd f (j + 1), which is at most prd f n
  have hM : prd f (j + 1) = prd f j * f j := rfl
  have hM1 : 1 ≤ prd f (j + 1) := prd_pos (fun k g1 g2 => h k g1 (by omega))
  rw [dv_eq hjj] at hd
  -- prd f n is a multiple of prd f (j + 1)
  have hdiv : ∀ m : Nat, j + 1 ≤ m → ∃ c, prd f m = prd f (j + 1) * c := by
    intro m
    induction m with
    | zero => intro g; omega
    | succ m ih =>
      intro g
      rcases Nat.lt_or_ge (j + 1) (m + 1) with q | q
      · obtain ⟨c, hc⟩ := ih (by omega)
        exact ⟨c * f m, by show prd f m * f m = _; rw [hc, Int.mul_assoc]⟩
      · exact ⟨1, by rw [show m + 1 = j + 1 by omega, Int.mul_one]⟩
  obtain ⟨c, hc⟩ := hdiv n hj
  -- q = x / prd f (j + 1) < c
  have e1 := Int.mul_ediv_add_emod x (prd f j)
  have e2 := Int.mul_ediv_add_emod (x / prd f j) (f j)
  have b1 := Int.emod_lt_of_pos x (show 0 < prd f j by omega)
  have b2 := Int.emod_nonneg x (show prd f j ≠ 0 by omega)
  have hq : x / prd f j / f j < c := by
    rw [Int.ediv_ediv_of_nonneg (by omega), ← hM]
    refine Int.ediv_lt_of_lt_mul (by omega) ?_
    rw [Int.mul_comm]
    omega
  have h3 : x / prd f j + 2 ≤ f j * c := by
    have : f j * (x / prd f j / f j + 1) ≤ f j * c := Int.mul_le_mul_of_nonneg_left (by omega) (by omega)
    rw [Int.mul_add, Int.mul_one] at this
    omega
  have h4 : prd f j * (x / prd f j + 2) ≤ prd f j * (f j * c) := Int.mul_le_mul_of_nonneg_left h3 (by omega)
  rw [← Int.mul_assoc, ← hM, ← hc, Int.mul_add] at h4
  omega
theorem dv_low {f : Int → Int} {x : Int} {j : Nat} (h : ∀ k : Int, 0 ≤ k → k < j → 1 ≤ f k) (hx : 0 ≤ x) (hf : 1 ≤ f j) (hd : 0 < dv f x j % f j) : 0 ≤ x - prd f j := by
  have h0 := prd_pos h
  rw [dv_eq h] at hd
  by_cases e : x < prd f j
  · rw [Int.ediv_eq_zero_of_lt hx e, Int.zero_emod] at hd
    omega
  · omega
end
end
